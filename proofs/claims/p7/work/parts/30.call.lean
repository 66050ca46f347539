/-! calls: by a contract, or the callee's frame on top -/
noncomputable def zargs (env : List zEn) : Nat → List Nat → zLs
  | _, [] => []
  | p, i :: is => (p, i) :: zargs env (if (zav env i).1 = 1 then p + 2 else p + 1) is
theorem zargs_ge {env : List zEn} : ∀ {is : List Nat} {p : Nat} {q : Nat × Nat}, q ∈ zargs env p is → p ≤ q.1
  | [], _, _, h => by cases h
  | i :: is, p, q, h => by
    rcases List.mem_cons.mp h with rfl | h
    · exact Nat.le_refl _
    · have := zargs_ge h
      split at this <;> omega
theorem zargs_ok {ty : List Nat} {ρ : List Value} {env : List zEn} (E : zEv ty ρ env) : ∀ {is : List Nat} {vs : List Value} (p : Nat), zSk ρ is vs → zLo ρ (zargs env p is) (lv_args p vs)
  | [], [], _, _ => fun q h => by cases h
  | i :: is, v :: vs, p, h => by
    intro q hq
    have hc := zGcat (E.at h.1)
    have e : (if v.category = 2 then p + 2 else p + 1) = (if (zav env i).1 = 1 then p + 2 else p + 1) := by
      rw [hc]
      by_cases h1 : (zav env i).1 = 1
      · rw [if_pos h1, if_pos rfl, if_pos h1]
      · rw [if_neg h1, if_neg (by decide), if_neg h1]
    rw [show lv_args p (v :: vs) = (p, v) :: lv_args (if v.category = 2 then p + 2 else p + 1) vs from rfl, e]
    rcases List.mem_cons.mp hq with rfl | hq
    · exact ⟨v, h.1, zget_self⟩
    · obtain ⟨w, h1, h2⟩ := zargs_ok E (if (zav env i).1 = 1 then p + 2 else p + 1) h.2 q hq
      refine ⟨w, h1, zget_cons h2 ?_⟩
      have := zargs_ge hq
      split at this <;> omega
noncomputable def zles (env : List zEn) : List Nat → List zA → Bool
  | [], [] => true
  | i :: is, a :: as => zLe (zav env i) a && zles env is as
  | _, _ => false
theorem zles_ok {ty : List Nat} {ρ : List Value} {env : List zEn} (E : zEv ty ρ env) : ∀ {is : List Nat} {vs : List Value} {as : List zA}, zSk ρ is vs → zles env is as = true → zAg ty as vs
  | [], [], [], _, _ => trivial
  | [], [], _ :: _, _, h => by cases h
  | _ :: _, _ :: _, [], _, h => by cases h
  | i :: is, v :: vs, a :: as, h, h2 => by
    rw [zles, Bool.and_eq_true] at h2
    exact ⟨zLe_ok h2.1 (E.at h.1), zles_ok E h.2 h2.2⟩
theorem zlgl : ∀ vs : List Value, (lg_sl vs).length = z_cat vs
  | [] => rfl
  | v :: vs => by
    have ih := zlgl vs
    unfold lg_sl z_cat at ih ⊢
    rw [List.flatMap_cons, List.length_append, ih, List.map_cons, List.sum_cons]
    cases v <;> rfl
noncomputable def zkps (env : List zEn) (ms : List zMod) (m : zMe) : Bool := ms.all (fun x => zkp env (x.1 : Int) (x.1 : Int) x.2.1 x.2.2 m)
/-- what the memo holds behind a call -/
theorem zMm.call {tt : Nat → zTy} {ty ty' : List Nat} {ρ : List Value} {env : List zEn} {me : List zMe} {h h' : zH} {ms : List zMod} (T : zTY tt ty h) (E : zEv ty ρ env) (Mm : zMm h ρ me) (F : zFm ms ty h h') : zMm h' ρ (me.filter (zkps env ms)) := by
  intro m hm
  obtain ⟨hm1, hm2⟩ := List.mem_filter.mp hm
  obtain ⟨a, e, i, v, k1, k2, k3, k4, k5⟩ := Mm m hm1
  have hl := (List.getElem?_eq_some_iff.mp k2).1
  have hl2 : a < h'.length := Nat.lt_of_lt_of_le hl F.1
  have hlt : a < ty.length := by rw [T.1]; exact hl
  have ht : ty[a]? = some ty[a] := List.getElem?_eq_getElem hlt
  have he' : h'[a]? = some h'[a] := List.getElem?_eq_getElem hl2
  refine ⟨a, h'[a], i, v, k1, he', k3, ?_, k5⟩
  rw [F.2 a ty[a] e h'[a] ht k2 he' i (fun hin => ?_)]
  · exact k4
  · obtain ⟨x, hx, x1, x2, x3⟩ := hin
    rcases zkp_ok E (List.all_eq_true.mp hm2 x hx) k1 k3 with z | z
    · exact z ty[a] ht ⟨by omega, by omega⟩
    · exact z ⟨x2, x3⟩
noncomputable def zpick (env : List zEn) (cts : List zCt) (own : Nat) (as : List Nat) : List Nat → Option zCt
  | [] => none
  | c :: cs => match cts[c]? with
    | some c' => if c < own ∧ zles env as (zcA c') = true then some c' else zpick env cts own as cs
    | none => zpick env cts own as cs
theorem zpick_ok {env : List zEn} {cts : List zCt} {own : Nat} {as : List Nat} {c' : zCt} : ∀ {l : List Nat}, zpick env cts own as l = some c' → (∃ c, c < own ∧ cts[c]? = some c') ∧ zles env as (zcA c') = true
  | [], h => by cases h
  | c :: cs, h => by
    rw [zpick] at h
    split at h
    · next c9 hc =>
      split at h
      · next hh => cases h; exact ⟨⟨c, hh.1, hc⟩, hh.2⟩
      · exact zpick_ok h
    · exact zpick_ok h
noncomputable def zt_ex (ct : zCt) (env : List zEn) (me : List zMe) (X Y : Nat) (fs : List zAf) : List Nat → Option (List zSt)
  | [] => some []
  | E :: Es => match zt_un ct env me X Y E fs, zt_ex ct env me X Y fs Es with
    | some a, some b => some (a ++ b)
    | _, _ => none
theorem zt_ex_at {ct : zCt} {env : List zEn} {me : List zMe} {X Y : Nat} {fs : List zAf} {E : Nat} : ∀ {Es : List Nat} {l : List zSt}, zt_ex ct env me X Y fs Es = some l → E ∈ Es → ∃ l', zt_un ct env me X Y E fs = some l' ∧ ∀ s ∈ l', s ∈ l
  | [], _, _, h => by cases h
  | E0 :: Es, l, h, hE => by
    rw [zt_ex] at h
    split at h
    case h_2 => cases h
    next a b ha hb =>
    cases h
    rcases List.mem_cons.mp hE with rfl | hE
    · exact ⟨a, ha, fun s hs => List.mem_append_left _ hs⟩
    · obtain ⟨l', h1, h2⟩ := zt_ex_at hb hE
      exact ⟨l', h1, fun s hs => List.mem_append_right _ (h2 s hs)⟩
noncomputable def zt_cn (c' : zCt) (env : List zEn) (me : List zMe) (j k : Nat) (loc : zLs) (rest : List Nat) (fs : List zAf) (X Y : Nat) : zSt := match zcR c' with
  | [] => (env, me, (j, k + 1, loc, rest) :: fs, X, Y)
  | a :: _ => (env ++ [(a, 0, 0)], me, (j, k + 1, loc, env.length :: rest) :: fs, X, Y)
noncomputable def zt_cw (cts : List zCt) (cand : List (List Nat)) (own : Nat) (ct : zCt) (a : Nat) (env : List zEn) (me : List zMe) (j k : Nat) (loc : zLs) (as rest : List Nat) (fs : List zAf) (X Y : Nat) : Option (List zSt) := match z_ms[a]? with
  | none => none
  | some M' => if zct env as ≤ M'.2.2.2.1 ∧ zct env rest ≤ 8 ∧ 1 ≤ zcD ct - fs.length then (match zpick env cts own as (cand.getD a []) with
    | some c' => if zcJ c' = a ∧ zcD c' + 1 ≤ zcD ct - fs.length ∧ (zcM c').all (fun m => zcv (zcM ct) m.1 m.2.1 m.2.2) = true then (match zt_ex ct env (me.filter (zkps env (zcM c'))) (X + (zcK c').2.2.1) (Y + (zcK c').2.2.2) ((j, k, loc, rest) :: fs) (zcE c') with
      | some ls => some (zt_cn c' env (me.filter (zkps env (zcM c'))) j k loc rest fs (X + (zcK c').1) (Y + (zcK c').2.1) :: ls)
      | none => none) else none
    | none => some [(env, me, (a, 0, zargs env 0 as, []) :: (j, k, loc, rest) :: fs, X, Y)]) else none
section ZCALL
variable {tt : Nat → zTy} {Ex : List Nat → zH → Prop} {cts : List zCt} {cand : List (List Nat)} {own : Nat} {ct : zCt} {ty0 : List Nat} {h0 : zH} {ρ0 : List Value} {sx : zX} {d0 : Nat} {j k : Nat} {loc : zLs} {stk : List Nat} {fs : List zAf} {X9 Y9 X Y : Nat} {env : List zEn} {me : List zMe} {lo : zL} {st : List Value} {cfs : List zCf} {h : zH} {ty : List Nat} {ρ : List Value} {M : zMi} {cs : List zI} {hs : List zHd} {i : zI} {l : List zSt} {Φ : zO → zH → Nat → Nat → Prop}
theorem zt_cw_ok {as rest : List Nat} {asv restv : List Value} (hd : zcD ct ≤ d0) (hcts : ∀ c, c < own → ∀ c', cts[c]? = some c' → zVd tt Ex c') (hM : z_ms[j]? = some M) (hC : z_cs[j]? = some cs) (hH : z_hs[j]? = some hs) (hi : cs[k]? = some i) (hop : i.1 = 54 ∨ i.1 = 55 ∨ i.1 = 72) (a1 : zRx ρ0 ρ) (a2 : zExt ty0 ty) (a3 : zTY tt ty h) (a4 : Ex ty h) (a5 : zFm (zcM ct) ty0 h0 h) (a6 : zEv ty ρ env) (a7 : zMm h ρ me) (a8 : zLo ρ loc lo) (a10 : zFs ρ fs cfs) (a11 : X ≤ X9) (a12 : Y ≤ Y9)
    (b1 : zSk ρ as asv) (b2 : zSk ρ rest restv) (hcal : ∀ M', z_ms[i.2.1]? = some M' → 1 ≤ d0 - cfs.length → z_cat restv ≤ 8 → (lg_sl asv).length ≤ M'.2.2.2.1 → z_cal i (d0 - cfs.length) st h = some (i.2.1, asv, restv))
    (hq : zt_cw cts cand own ct i.2.1 env me j k loc as rest fs X9 Y9 = some l) (hl : zTo tt Ex ct ty0 h0 ρ0 sx d0 Φ l) : zGo sx d0 Φ ((j, k, lo, st) :: cfs) h X Y := by
  unfold zt_cw at hq
  split at hq
  case h_1 => cases hq
  next M' hM' =>
  split at hq
  case isFalse => cases hq
  next hc =>
  have hlen := a10.len
  have hz := hcal M' hM' (by rw [hlen]; omega) (by rw [zct_ok a6 b2]; exact hc.2.1) (by rw [zlgl, zct_ok a6 b1]; exact hc.1)
  refine zGo.call hM hC hH hi (by omega) hz ?_
  split at hq
  · next c' hp =>
    split at hq
    case isFalse => cases hq
    next hcc =>
    split at hq
    case h_2 => cases hq
    next ls hls =>
    cases hq
    obtain ⟨⟨cn, hcn, hc9⟩, hles⟩ := zpick_ok hp
    have hv := hcts cn hcn c' hc9 sx (d0 - (cfs.length + 1)) ty h asv (by omega) a3 a4 (zles_ok a6 b1 hles)
    rw [hcc.1] at hv
    refine z_ok.imp hv (fun o h' x y hpo => ?_)
    obtain ⟨ty', p1, p2, p3, p4, p5⟩ := hpo
    have hcov : zFm (zcM ct) ty h h' := p4.mono (fun t n hin => by
      obtain ⟨m, hm, m1, m2, m3⟩ := hin
      have := zcv_ok (List.all_eq_true.mp hcc.2.2 m hm) m2 m3
      rw [← m1]
      exact this)
    have hmem : zMm h' ρ (me.filter (zkps env (zcM c'))) := zMm.call (ty' := ty') a3 a6 a7 p4
    cases o with
    | inl v =>
      obtain ⟨q1, q2, q3⟩ := p5
      refine zKx.ret hC hH hi ?_
      have hs9 := hl.2 _ List.mem_cons_self
      unfold zt_cn at hs9
      cases hret : zcR c' with
      | nil =>
        rw [hret] at q1 hs9
        cases v with
        | some w => exact q1.elim
        | none => exact hs9 _ h' (x + X) (y + Y) ⟨ty', ρ, a1, a2.tr p1, p2, p3, a5.tr a2 hcov, a6.ext p1, hmem, ⟨rfl, rfl, a8, b2, a10⟩, by show x + X ≤ X9 + (zcK c').1; omega, by show y + Y ≤ Y9 + (zcK c').2.1; omega⟩
      | cons r rs =>
        rw [hret] at q1 hs9
        cases v with
        | none => cases rs <;> exact q1.elim
        | some w =>
        have gw : zG ty' r w := by
          cases rs with
          | nil => exact q1
          | cons _ _ => exact q1.elim
        exact hs9 _ h' (x + X) (y + Y) ⟨ty', ρ ++ [w], a1.tr zRx.app, a2.tr p1, p2, p3, a5.tr a2 hcov, (a6.ext p1).push0 gw, hmem.mono zRx.app, ⟨rfl, rfl, a8.mono zRx.app, ⟨a6.new w, b2.mono zRx.app⟩, a10.mono zRx.app⟩, by show x + X ≤ X9 + (zcK c').1; omega, by show y + Y ≤ Y9 + (zcK c').2.1; omega⟩
    | inr E =>
      obtain ⟨q1, q2, q3⟩ := p5
      obtain ⟨l', g1, g2⟩ := zt_ex_at hls q1
      exact zt_un_ok (ty := ty') (X := x + X) (Y := y + Y) a1 (a2.tr p1) p2 p3 (a5.tr a2 hcov) (a6.ext p1) hmem (by omega) (by omega) ⟨hl.1, fun s hs => hl.2 s (List.mem_cons_of_mem _ (g2 s hs))⟩ ((j, k, loc, rest) :: fs) ((j, k, lo, restv) :: cfs) ⟨rfl, rfl, a8, b2, a10⟩ g1
  · cases hq
    exact hl.2 _ (List.mem_singleton.mpr rfl) _ h X Y ⟨ty, ρ, a1, a2, a3, a4, a5, a6, a7, ⟨rfl, rfl, zargs_ok a6 0 b1, trivial, rfl, rfl, a8, b2, a10⟩, a11, a12⟩
noncomputable def zt_call (tt : Nat → zTy) (cts : List zCt) (cand : List (List Nat)) (own : Nat) (ct : zCt) (i : zI) (env : List zEn) (me : List zMe) (j k : Nat) (loc : zLs) (stk : List Nat) (fs : List zAf) (X Y : Nat) : Option (List zSt) :=
  if stk.length < i.2.2.1 then none else if i.1 = 54 then (match stk.drop i.2.2.1 with
    | r :: rest => if (zav env r).1 = 2 ∧ 0 ≤ (zav env r).2.1 ∧ (ztl (zav env r).2.1 (zav env r).2.2).all (fun t => decide ((tt t).1 = 0) && decide (((tt t).2.1 : Int) = i.2.2.2)) = true then zt_cw cts cand own ct i.2.1 env me j k loc (r :: (stk.take i.2.2.1).reverse) rest fs X Y else none
    | [] => none) else if i.1 = 55 ∨ i.1 = 72 then zt_cw cts cand own ct i.2.1 env me j k loc (stk.take i.2.2.1).reverse (stk.drop i.2.2.1) fs X Y else none
theorem z_cal0_54 {i : zI} {d : Nat} {st : List Value} {h : zH} (hi : i.1 = 54) : z_cal0 i d st h = if d = 0 ∨ st.length < i.2.2.1 then none else (match st.drop i.2.2.1 with
    | .ref r :: rest => (match h[r]? with
      | some (.inr (c, _)) => if (c : Int) = i.2.2.2 ∧ z_cat rest ≤ 8 then some (i.2.1, .ref r :: (st.take i.2.2.1).reverse, rest) else none
      | _ => none)
    | _ => none) := by
  unfold z_cal0
  rw [hi]
  all_goals rfl
theorem z_cal0_55 {i : zI} {d : Nat} {st : List Value} {h : zH} (hi : i.1 = 55 ∨ i.1 = 72) : z_cal0 i d st h = if d = 0 ∨ st.length < i.2.2.1 then none else if z_cat (st.drop i.2.2.1) ≤ 8 then some (i.2.1, (st.take i.2.2.1).reverse, st.drop i.2.2.1) else none := by
  unfold z_cal0
  rcases hi with hi | hi <;> rw [hi]
  all_goals rfl
theorem zt_call_ok (hd : zcD ct ≤ d0) (hcts : ∀ c, c < own → ∀ c', cts[c]? = some c' → zVd tt Ex c') (hM : z_ms[j]? = some M) (hC : z_cs[j]? = some cs) (hH : z_hs[j]? = some hs) (hi : cs[k]? = some i) (a1 : zRx ρ0 ρ) (a2 : zExt ty0 ty) (a3 : zTY tt ty h) (a4 : Ex ty h) (a5 : zFm (zcM ct) ty0 h0 h) (a6 : zEv ty ρ env) (a7 : zMm h ρ me) (a8 : zLo ρ loc lo) (a9 : zSk ρ stk st) (a10 : zFs ρ fs cfs) (a11 : X ≤ X9) (a12 : Y ≤ Y9)
    (hq : zt_call tt cts cand own ct i env me j k loc stk fs X9 Y9 = some l) (hl : zTo tt Ex ct ty0 h0 ρ0 sx d0 Φ l) : zGo sx d0 Φ ((j, k, lo, st) :: cfs) h X Y := by
  unfold zt_call at hq
  split at hq
  case isTrue => cases hq
  next hlen =>
  have hsl := a9.len
  split at hq
  · next h54 =>
    split at hq
    case h_2 => cases hq
    next r rest hdr =>
    split at hq
    case isFalse => cases hq
    next hc =>
    have hdrop := a9.drop i.2.2.1
    rw [hdr] at hdrop
    cases hdv : st.drop i.2.2.1 with
    | nil => rw [hdv] at hdrop; exact hdrop.elim
    | cons vr restv =>
    rw [hdv] at hdrop
    obtain ⟨ad, t, rfl, ht, t1, t2⟩ := zG2 (a6.at hdrop.1) hc.1
    have hl0 : ad < h.length := by rw [← a3.1]; exact (List.getElem?_eq_some_iff.mp ht).1
    have he : h[ad]? = some h[ad] := List.getElem?_eq_getElem hl0
    have hty := List.all_eq_true.mp hc.2.2 t (ztl_mem hc.2.1 t1 t2)
    rw [Bool.and_eq_true, decide_eq_true_eq, decide_eq_true_eq] at hty
    obtain ⟨fs9, hfs, -⟩ := zsh0 (a3.2.2 ad t _ ht he).1 hty.1
    refine zt_cw_ok (as := r :: (stk.take i.2.2.1).reverse) (asv := .ref ad :: (st.take i.2.2.1).reverse) (restv := restv) hd hcts hM hC hH hi (Or.inl h54) a1 a2 a3 a4 a5 a6 a7 a8 a10 a11 a12 ⟨hdrop.1, (a9.take i.2.2.1).rev⟩ hdrop.2 (fun M' hM' c1 c2 c3 => ?_) hq hl
    unfold z_cal
    have hcal0 : z_cal0 i (d0 - cfs.length) st h = some (i.2.1, .ref ad :: (st.take i.2.2.1).reverse, restv) := by
      rw [z_cal0_54 h54, if_neg (by omega), hdv]
      dsimp only
      rw [he, hfs]
      exact if_pos ⟨hty.2, c2⟩
    rw [hcal0]
    dsimp only
    rw [hM']
    exact if_pos c3
  · split at hq
    case isFalse => cases hq
    next h55 =>
    refine zt_cw_ok (asv := (st.take i.2.2.1).reverse) (restv := st.drop i.2.2.1) hd hcts hM hC hH hi (Or.inr h55) a1 a2 a3 a4 a5 a6 a7 a8 a10 a11 a12 (a9.take i.2.2.1).rev (a9.drop i.2.2.1) (fun M' hM' c1 c2 c3 => ?_) hq hl
    unfold z_cal
    have hcal0 : z_cal0 i (d0 - cfs.length) st h = some (i.2.1, (st.take i.2.2.1).reverse, st.drop i.2.2.1) := by
      rw [z_cal0_55 h55, if_neg (by omega)]
      exact if_pos c2
    rw [hcal0]
    dsimp only
    rw [hM']
    exact if_pos c3
/-! one step of the checker -/
noncomputable def zstep (tt : Nat → zTy) (cts : List zCt) (cand : List (List Nat)) (own : Nat) (ct : zCt) (s : zSt) : Option (List zSt) := match s.2.2.1 with
  | [] => none
  | f :: fs => match z_ms[f.1]?, z_cs[f.1]?, z_hs[f.1]? with
    | some M, some cs, some _ => (match cs[f.2.1]? with
      | none => none
      | some i => if i.1 = 54 ∨ i.1 = 55 ∨ i.1 = 72 then zt_call tt cts cand own ct i s.1 s.2.1 f.1 f.2.1 f.2.2.1 f.2.2.2 fs s.2.2.2.1 s.2.2.2.2
        else if 30 ≤ i.1 ∧ i.1 ≤ 33 then zt_if i s.1 s.2.1 f.1 f.2.1 f.2.2.1 f.2.2.2 fs s.2.2.2.1 s.2.2.2.2
        else if i.1 = 35 ∨ i.1 = 36 then zt_sw i s.1 s.2.1 f.1 f.2.2.1 f.2.2.2 fs s.2.2.2.1 s.2.2.2.2
        else if 50 ≤ i.1 ∧ i.1 ≤ 53 then zt_ret ct M i s.1 s.2.1 f.2.2.2 fs s.2.2.2.1 s.2.2.2.2
        else if i.1 = 62 then zt_thr ct i s.1 s.2.1 f.2.2.2 fs s.2.2.2.1 s.2.2.2.2
        else zt_op tt ct i s.1 s.2.1 f.1 f.2.1 f.2.2.1 f.2.2.2 fs s.2.2.2.1 s.2.2.2.2)
    | _, _, _ => none
theorem zstep_ok {s : zSt} {cf : List zCf} (hst : zStable tt Ex (zcM ct)) (hd : zcD ct ≤ d0) (hcts : ∀ c, c < own → ∀ c', cts[c]? = some c' → zVd tt Ex c') (R : zRl tt Ex ct ty0 h0 ρ0 s cf h X Y) (hq : zstep tt cts cand own ct s = some l) (hl : zTo tt Ex ct ty0 h0 ρ0 sx d0 Φ l) : zGo sx d0 Φ cf h X Y := by
  obtain ⟨ty, ρ, a1, a2, a3, a4, a5, a6, a7, a10, a11, a12⟩ := R
  unfold zstep at hq
  split at hq
  case h_1 => cases hq
  next f fs hfr =>
  rw [hfr] at a10
  match cf, a10 with
  | (j, k, lo, st) :: cfs, a10 =>
  obtain ⟨b1, b2, a8, a9, a10⟩ := a10
  dsimp only at b1 b2 a8 a9
  rw [b1, b2] at hq
  split at hq
  case h_2 => cases hq
  next M cs hs hM hC hH =>
  split at hq
  case h_1 => cases hq
  next i hi =>
  split at hq
  · exact zt_call_ok hd hcts hM hC hH hi a1 a2 a3 a4 a5 a6 a7 a8 a9 a10 a11 a12 hq hl
  · split at hq
    · exact zt_if_ok hM hC hH hi a1 a2 a3 a4 a5 a6 a7 a8 a9 a10 a11 a12 hq hl
    · split at hq
      · exact zt_sw_ok hM hC hH hi a1 a2 a3 a4 a5 a6 a7 a8 a9 a10 a11 a12 hq hl
      · split at hq
        · exact zt_ret_ok hM hC hH hi a1 a2 a3 a4 a5 a6 a7 a9 a10 a11 a12 hq hl
        · split at hq
          · exact zt_thr_ok hd hM hC hH hi a1 a2 a3 a4 a5 a6 a7 a9 a10 a11 a12 hq hl
          · exact zt_op_ok hst hd hM hC hH hi a1 a2 a3 a4 a5 a6 a7 a8 a9 a10 a11 a12 hq hl
end ZCALL
