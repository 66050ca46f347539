/-! cut points: what holds there, and that something falls -/
abbrev zRk : Type := Nat × Nat × Int × Int
noncomputable def zc_env (c : zCut) : List zEn := c.2.1.map (fun p => (p.2, 0, 0)) ++ c.2.2.1.map (fun m => (m.2.2, 0, 0))
noncomputable def zc_loc0 : Nat → List (Nat × zA) → zLs
  | _, [] => []
  | n, p :: ps => (p.1, n) :: zc_loc0 (n + 1) ps
noncomputable def zc_loc (c : zCut) : zLs := zc_loc0 0 c.2.1
noncomputable def zc_me0 (loc : zLs) : Nat → List (Nat × Int × zA) → List zMe
  | _, [] => []
  | n, m :: ms => (match zlk loc m.1 with
    | some r => (r, 0, m.2.1, n) :: zc_me0 loc (n + 1) ms
    | none => zc_me0 loc (n + 1) ms)
noncomputable def zc_me (c : zCut) : List zMe := zc_me0 (zc_loc c) c.2.1.length c.2.2.1
noncomputable def zVl (ty : List Nat) (lo : zL) : List (Nat × zA) → List Value → Prop
  | [], [] => True
  | p :: ps, v :: vs => z_get lo p.1 = some v ∧ zG ty p.2 v ∧ zVl ty lo ps vs
  | _, _ => False
noncomputable def zVm (ty : List Nat) (lo : zL) (h : zH) : List (Nat × Int × zA) → List Value → Prop
  | [], [] => True
  | m :: ms, v :: vs => (∃ (a : Nat) (e : zE) (i : Nat), z_get lo m.1 = some (.ref a) ∧ h[a]? = some e ∧ m.2.1 = (i : Int) ∧ z_rd e i = some v) ∧ zG ty m.2.2 v ∧ zVm ty lo h ms vs
  | _, _ => False
theorem zVl.len {ty : List Nat} {lo : zL} : ∀ {ps : List (Nat × zA)} {vs : List Value}, zVl ty lo ps vs → vs.length = ps.length
  | [], [], _ => rfl
  | _ :: _, _ :: _, h => by rw [List.length_cons, List.length_cons, zVl.len h.2.2]
theorem zVm.len {ty : List Nat} {lo : zL} {h : zH} : ∀ {ps : List (Nat × Int × zA)} {vs : List Value}, zVm ty lo h ps vs → vs.length = ps.length
  | [], [], _ => rfl
  | _ :: _, _ :: _, h => by rw [List.length_cons, List.length_cons, zVm.len h.2.2]
theorem zc_ev1 {ty : List Nat} {ρ : List Value} {env : List zEn} : ∀ {vs : List Value} {es : List zEn}, vs.length = es.length → (∀ (i : Nat) (v : Value) (e : zEn), vs[i]? = some v → es[i]? = some e → zG ty e.1 v ∧ e.2.1 = 0) → zEv ty ρ env → zEv ty (ρ ++ vs) (env ++ es)
  | [], [], _, _, E => by rw [List.append_nil, List.append_nil]; exact E
  | [], _ :: _, h, _, _ => by cases h
  | _ :: _, [], h, _, _ => by cases h
  | v :: vs, e :: es, hl, hg, E => by
    have h0 := hg 0 v e rfl rfl
    have E1 := E.push (e := e) (v := v) h0.1 (fun b hb => by rw [h0.2] at hb; cases hb)
    have := zc_ev1 (vs := vs) (es := es) (by simpa using hl) (fun i w f hi hf => hg (i + 1) w f (by simpa using hi) (by simpa using hf)) E1
    rw [List.append_assoc, List.append_assoc] at this
    exact this
theorem zVl.at {ty : List Nat} {lo : zL} : ∀ {ps : List (Nat × zA)} {vs : List Value}, zVl ty lo ps vs → ∀ (i : Nat) (v : Value) (p : Nat × zA), vs[i]? = some v → ps[i]? = some p → z_get lo p.1 = some v ∧ zG ty p.2 v
  | [], [], _, i, v, p, h, _ => by simp at h
  | p0 :: ps, v0 :: vs, H, 0, v, p, h1, h2 => by
    simp only [List.getElem?_cons_zero, Option.some.injEq] at h1 h2
    subst h1; subst h2
    exact ⟨H.1, H.2.1⟩
  | p0 :: ps, v0 :: vs, H, i + 1, v, p, h1, h2 => zVl.at H.2.2 i v p (by simpa using h1) (by simpa using h2)
theorem zVm.at {ty : List Nat} {lo : zL} {h : zH} : ∀ {ps : List (Nat × Int × zA)} {vs : List Value}, zVm ty lo h ps vs → ∀ (i : Nat) (v : Value) (p : Nat × Int × zA), vs[i]? = some v → ps[i]? = some p → zG ty p.2.2 v
  | [], [], _, i, v, p, h, _ => by simp at h
  | p0 :: ps, v0 :: vs, H, 0, v, p, h1, h2 => by
    simp only [List.getElem?_cons_zero, Option.some.injEq] at h1 h2
    subst h1; subst h2
    exact H.2.1
  | p0 :: ps, v0 :: vs, H, i + 1, v, p, h1, h2 => zVm.at H.2.2 i v p (by simpa using h1) (by simpa using h2)
theorem zc_ev {ty : List Nat} {lo : zL} {h : zH} {c : zCut} {vl vm : List Value} (H1 : zVl ty lo c.2.1 vl) (H2 : zVm ty lo h c.2.2.1 vm) : zEv ty (vl ++ vm) (zc_env c) := by
  have E0 : zEv ty [] [] := ⟨rfl, fun i e v h => by simp at h⟩
  have E1 := zc_ev1 (ty := ty) (ρ := []) (env := []) (vs := vl) (es := c.2.1.map (fun p => (p.2, 0, 0))) (by rw [List.length_map]; exact H1.len) (fun i v e hi he => by
    rw [List.getElem?_map] at he
    cases hp : c.2.1[i]? with
    | none => rw [hp] at he; cases he
    | some p =>
      rw [hp] at he
      cases he
      exact ⟨(H1.at i v p hi hp).2, rfl⟩) E0
  exact zc_ev1 (vs := vm) (es := c.2.2.1.map (fun m => (m.2.2, 0, 0))) (by rw [List.length_map]; exact H2.len) (fun i v e hi he => by
    rw [List.getElem?_map] at he
    cases hp : c.2.2.1[i]? with
    | none => rw [hp] at he; cases he
    | some p =>
      rw [hp] at he
      cases he
      exact ⟨H2.at i v p hi hp, rfl⟩) E1
theorem zc_lo0 {ty : List Nat} {ρ : List Value} {lo : zL} : ∀ {n : Nat} {ps : List (Nat × zA)} {vs : List Value}, zVl ty lo ps vs → (∀ (i : Nat) (v : Value), vs[i]? = some v → ρ[n + i]? = some v) → zLo ρ (zc_loc0 n ps) lo
  | _, [], [], _, _ => fun p hp => by cases hp
  | n, p0 :: ps, v0 :: vs, H, hρ => by
    intro p hp
    rcases List.mem_cons.mp hp with rfl | hp
    · exact ⟨v0, hρ 0 v0 rfl, H.1⟩
    · exact zc_lo0 H.2.2 (fun i v hi => by rw [show n + 1 + i = n + (i + 1) by omega]; exact hρ (i + 1) v (by simpa using hi)) p hp
theorem zc_mm0 {ty : List Nat} {ρ : List Value} {lo : zL} {h : zH} {loc : zLs} (L : zLo ρ loc lo) : ∀ {n : Nat} {ps : List (Nat × Int × zA)} {vs : List Value}, zVm ty lo h ps vs → (∀ (i : Nat) (v : Value), vs[i]? = some v → ρ[n + i]? = some v) → zMm h ρ (zc_me0 loc n ps)
  | _, [], [], _, _ => fun p hp => by cases hp
  | n, p0 :: ps, v0 :: vs, H, hρ => by
    have ih := zc_mm0 L (n := n + 1) H.2.2 (fun i v hi => by rw [show n + 1 + i = n + (i + 1) by omega]; exact hρ (i + 1) v (by simpa using hi))
    rw [zc_me0]
    split
    · next r hr =>
      intro m hm
      rcases List.mem_cons.mp hm with rfl | hm
      · obtain ⟨a, e, i, h1, h2, h3, h4⟩ := H.1
        obtain ⟨w, w1, w2⟩ := zlk_ok L hr
        rw [h1] at w2
        cases w2
        exact ⟨a, e, i, v0, w1, h2, h3, h4, hρ 0 v0 rfl⟩
      · exact ih m hm
    · exact ih
theorem zc_lo {ty : List Nat} {lo : zL} {c : zCut} {vl vm : List Value} (H1 : zVl ty lo c.2.1 vl) : zLo (vl ++ vm) (zc_loc c) lo := zc_lo0 H1 (fun i v hi => by rw [Nat.zero_add]; exact zRx.app i v hi)
theorem zc_mm {ty : List Nat} {lo : zL} {h : zH} {c : zCut} {vl vm : List Value} (H1 : zVl ty lo c.2.1 vl) (H2 : zVm ty lo h c.2.2.1 vm) : zMm h (vl ++ vm) (zc_me c) := zc_mm0 (zc_lo H1) H2 (fun i v hi => by
  rw [← H1.len, List.getElem?_append_right (by omega), Nat.add_sub_cancel_left]; exact hi)
/-! arriving -/
noncomputable def za_l (env : List zEn) (loc : zLs) : List (Nat × zA) → Bool
  | [] => true
  | p :: ps => (match zlk loc p.1 with
    | some i => zLe (zav env i) p.2
    | none => false) && za_l env loc ps
theorem za_l_ok {ty : List Nat} {ρ : List Value} {env : List zEn} {loc : zLs} {lo : zL} (E : zEv ty ρ env) (L : zLo ρ loc lo) : ∀ {ps : List (Nat × zA)}, za_l env loc ps = true → ∃ vl, zVl ty lo ps vl
  | [], _ => ⟨[], trivial⟩
  | p :: ps, h => by
    rw [za_l, Bool.and_eq_true] at h
    obtain ⟨vl, hv⟩ := za_l_ok E L h.2
    have h1 := h.1
    split at h1
    · next i hi =>
      obtain ⟨v, v1, v2⟩ := zlk_ok L hi
      exact ⟨v :: vl, v2, zLe_ok h1 (E.at v1), hv⟩
    · cases h1
noncomputable def za_m (tt : Nat → zTy) (env : List zEn) (me : List zMe) (loc : zLs) : List (Nat × Int × zA) → Bool
  | [] => true
  | m :: ms => (match zlk loc m.1 with
    | some r => (match zml me r 0 m.2.1 with
      | some v => zLe (zav env v) m.2.2
      | none => decide ((zav env r).1 = 2) && (decide ((zav env r).2.1 = (zav env r).2.2) && (decide (0 ≤ (zav env r).2.1) && (match zone tt 0 (tt (zav env r).2.1.toNat).2.1 m.2.1 m.2.1 (zav env r).2.1.toNat with
        | some a => zLe a m.2.2
        | none => false))))
    | none => false) && za_m tt env me loc ms
theorem za_m_ok {tt : Nat → zTy} {ty : List Nat} {ρ : List Value} {env : List zEn} {me : List zMe} {loc : zLs} {lo : zL} {h : zH} (T : zTY tt ty h) (E : zEv ty ρ env) (Mm : zMm h ρ me) (L : zLo ρ loc lo) : ∀ {ps : List (Nat × Int × zA)}, za_m tt env me loc ps = true → ∃ vm, zVm ty lo h ps vm
  | [], _ => ⟨[], trivial⟩
  | m :: ms, hq => by
    rw [za_m, Bool.and_eq_true] at hq
    obtain ⟨vm, hv⟩ := za_m_ok T E Mm L hq.2
    have h1 := hq.1
    split at h1
    case h_2 => cases h1
    next r hr =>
    obtain ⟨vr, r1, r2⟩ := zlk_ok L hr
    split at h1
    · next v hml =>
      obtain ⟨a, e, i, w, k1, k2, k3, k4, k5⟩ := Mm _ (zml_ok hml)
      dsimp only at k1 k3 k5
      rw [r1] at k1
      cases k1
      exact ⟨w :: vm, ⟨a, e, i, r2, k2, k3, k4⟩, zLe_ok h1 (E.at k5), hv⟩
    · rw [Bool.and_eq_true, Bool.and_eq_true, Bool.and_eq_true, decide_eq_true_eq, decide_eq_true_eq, decide_eq_true_eq] at h1
      obtain ⟨c1, c2, c3, c4⟩ := h1
      obtain ⟨a, t, rfl, ht, t1, t2⟩ := zG2 (E.at r1) c1
      have et : (zav env r).2.1.toNat = t := by omega
      rw [et] at c4
      split at c4
      case h_2 => cases c4
      next a9 hz =>
      unfold zone at hz
      split at hz
      case isFalse => cases hz
      next hz2 =>
      have hl : a < h.length := by rw [← T.1]; exact (List.getElem?_eq_some_iff.mp ht).1
      have he : h[a]? = some h[a] := List.getElem?_eq_getElem hl
      obtain ⟨sh, vals⟩ := T.2.2 a t h[a] ht he
      have hi : m.2.1 = ((m.2.1.toNat : Nat) : Int) := by omega
      obtain ⟨v, hv9⟩ := zsh_rd (i := m.2.1.toNat) sh (by omega) (by rw [hz2.1]; decide)
      obtain ⟨rg, m1, m2, m3, m4⟩ := zrg_ok _ _ _ _ hz m.2.1 (Int.le_refl _) (Int.le_refl _)
      exact ⟨v :: vm, ⟨a, h[a], m.2.1.toNat, r2, he, hi, hv9⟩, zLe_ok c4 (m4 ty v (vals _ v hv9 rg m1 (by omega) (by omega))), hv⟩
/-! what falls -/
noncomputable def zcv2 (lo : zL) (h : zH) (r : zRk) : Int := if r.1 ≤ 2 then (match z_get lo r.2.1 with
    | some (.int x) => x.toInt
    | _ => 0) else (match z_get lo r.2.1 with
    | some (.ref a) => (match h[a]? with
      | some e => (match z_rd e r.2.2.1.toNat with
        | some (.int x) => x.toInt
        | _ => 0)
      | none => 0)
    | _ => 0)
noncomputable def zmc (lo : zL) (h : zH) (r : zRk) : Nat := if r.1 = 0 then r.2.2.2.toNat else if r.1 = 1 ∨ r.1 = 3 then (r.2.2.2 - zcv2 lo h r).toNat else (zcv2 lo h r - r.2.2.2).toNat
noncomputable def zvid (loc : zLs) (me : List zMe) (r : zRk) : Option Nat := if r.1 ≤ 2 then zlk loc r.2.1 else (match zlk loc r.2.1 with
  | some q => zml me q 0 r.2.2.1
  | none => none)
theorem zvid_ok {ρ : List Value} {loc : zLs} {me : List zMe} {lo : zL} {h : zH} {r : zRk} {i : Nat} {x : Int32} (L : zLo ρ loc lo) (Mm : zMm h ρ me) (hv : zvid loc me r = some i) (hx : ρ[i]? = some (.int x)) : zcv2 lo h r = x.toInt := by
  unfold zvid at hv
  unfold zcv2
  split at hv
  · next h2 =>
    rw [if_pos h2]
    obtain ⟨v, v1, v2⟩ := zlk_ok L hv
    rw [hx] at v1
    cases v1
    rw [v2]
  · next h2 =>
    rw [if_neg h2]
    split at hv
    case h_2 => cases hv
    next q hq =>
    obtain ⟨v, v1, v2⟩ := zlk_ok L hq
    obtain ⟨a, e, n, w, k1, k2, k3, k4, k5⟩ := Mm _ (zml_ok hv)
    dsimp only at k1 k3 k5
    rw [v1] at k1
    cases k1
    rw [hx] at k5
    cases k5
    have e9 : r.2.2.1 = (n : Int) := k3
    rw [v2]
    dsimp only
    rw [k2]
    dsimp only
    rw [show r.2.2.1.toNat = n by omega, k4]
noncomputable def zdel (env : List zEn) (a b : Nat) : Option Int := if a = b then some 0 else (match env[b]? with
  | some e => if e.2.1 = a + 1 then some e.2.2 else none
  | none => none)
theorem zdel_ok {ty : List Nat} {ρ : List Value} {env : List zEn} {a b : Nat} {δ : Int} {x : Int32} (E : zEv ty ρ env) (hx : ρ[b]? = some (.int x)) (h : zdel env a b = some δ) : ∃ y : Int32, ρ[a]? = some (.int y) ∧ x.toInt = y.toInt + δ := by
  unfold zdel at h
  split at h
  · next e => cases h; subst e; exact ⟨x, hx, by omega⟩
  · split at h
    · next e he =>
      split at h
      · next hb =>
        cases h
        obtain ⟨x9, y, q1, q2, q3⟩ := (E.2 b e _ he hx).2 a hb
        cases q1
        exact ⟨y, q2, q3⟩
      · cases h
    · cases h
noncomputable def zrk (env : List zEn) (loc : zLs) (me : List zMe) (sloc : zLs) (sme : List zMe) : List zRk → List zRk → Bool
  | s :: ss, t :: ts => if s.1 = 0 ∧ t.1 = 0 then decide (0 ≤ t.2.2.2) && (decide (t.2.2.2 < s.2.2.2) || (decide (t.2.2.2 = s.2.2.2) && zrk env loc me sloc sme ss ts))
    else if s = t then (match zvid sloc sme s, zvid loc me t with
      | some a, some b => decide ((zav env b).1 = 0) && (match zdel env a b with
        | some δ => if s.1 = 1 ∨ s.1 = 3 then (decide (0 < δ) && decide ((zav env b).2.2 ≤ t.2.2.2)) || (decide (δ = 0) && zrk env loc me sloc sme ss ts) else (decide (δ < 0) && decide (t.2.2.2 ≤ (zav env b).2.1)) || (decide (δ = 0) && zrk env loc me sloc sme ss ts)
        | none => false)
      | _, _ => false) else false
  | _, _ => false
noncomputable def zlex : List Nat → List Nat → Prop
  | a :: as, b :: bs => a < b ∨ (a = b ∧ zlex as bs)
  | _, _ => False
theorem zlex_ind : ∀ (n : Nat) (P : List Nat → Prop), (∀ l, l.length = n → (∀ l', l'.length = n → zlex l' l → P l') → P l) → ∀ l, l.length = n → P l
  | 0, P, H, l, hl => H l hl (fun l' hl' h => by
    have : l' = [] := List.length_eq_zero_iff.mp hl'
    subst this
    cases h)
  | n + 1, P, H, l, hl => by
    have key : ∀ a, ∀ t : List Nat, t.length = n → P (a :: t) := by
      intro a
      induction a using Nat.strongRecOn with
      | ind a iha =>
        refine zlex_ind n (fun t => P (a :: t)) (fun t ht iht => ?_)
        refine H (a :: t) (by rw [List.length_cons, ht]) (fun l' hl' hlt => ?_)
        match l', hl', hlt with
        | b :: u, hl2, hlt2 =>
          have hu : u.length = n := by simpa using hl2
          rcases hlt2 with q | ⟨q1, q2⟩
          · exact iha b q u hu
          · rw [q1]; exact iht u hu q2
    match l, hl with
    | a :: t, hl => exact key a t (by simpa using hl)
theorem zrk_ok {ty : List Nat} {ρ ρ1 : List Value} {env : List zEn} {loc sloc : zLs} {me sme : List zMe} {lo lo1 : zL} {h h1 : zH} (E : zEv ty ρ env) (L : zLo ρ loc lo) (Mm : zMm h ρ me) (hx : zRx ρ1 ρ) (L1 : zLo ρ1 sloc lo1) (M1 : zMm h1 ρ1 sme) : ∀ {ss ts : List zRk}, (∀ s ∈ ss, ∀ a, zvid sloc sme s = some a → a < ρ1.length) → zrk env loc me sloc sme ss ts = true → zlex (ts.map (zmc lo h)) (ss.map (zmc lo1 h1))
  | [], ts, _, hq => by cases ts <;> cases hq
  | _ :: _, [], _, hq => by cases hq
  | s :: ss, t :: ts, hb, hq => by
    rw [zrk] at hq
    rw [List.map_cons, List.map_cons]
    split at hq
    · next h0 =>
      rw [Bool.and_eq_true, Bool.or_eq_true, Bool.and_eq_true, decide_eq_true_eq, decide_eq_true_eq, decide_eq_true_eq] at hq
      have e1 : zmc lo h t = t.2.2.2.toNat := by unfold zmc; rw [if_pos h0.2]
      have e2 : zmc lo1 h1 s = s.2.2.2.toNat := by unfold zmc; rw [if_pos h0.1]
      rcases hq.2 with q | ⟨q1, q2⟩
      · exact Or.inl (by rw [e1, e2]; omega)
      · exact Or.inr ⟨by rw [e1, e2, q1], zrk_ok E L Mm hx L1 M1 (fun s9 hs9 => hb s9 (List.mem_cons_of_mem _ hs9)) q2⟩
    · next h0 =>
      split at hq
      case isFalse => cases hq
      next hst =>
      subst hst
      have hs0 : s.1 ≠ 0 := fun e => h0 ⟨e, e⟩
      split at hq
      case h_2 => cases hq
      next a b ha hb9 =>
      rw [Bool.and_eq_true, decide_eq_true_eq] at hq
      obtain ⟨hz, hq⟩ := hq
      split at hq
      case h_2 => cases hq
      next δ hδ =>
      have hlt := hb s List.mem_cons_self a ha
      -- the value at the end
      obtain ⟨w, hw⟩ : ∃ w, ρ[b]? = some w := by
        unfold zvid at hb9
        split at hb9
        · obtain ⟨v, v1, -⟩ := zlk_ok L hb9; exact ⟨v, v1⟩
        · split at hb9
          · obtain ⟨a9, e9, n9, w9, -, -, -, -, k5⟩ := Mm _ (zml_ok hb9); exact ⟨w9, k5⟩
          · cases hb9
      obtain ⟨x, rfl, x1, x2⟩ := zG0 (E.at hw) hz
      obtain ⟨y, y1, y2⟩ := zdel_ok E hw hδ
      have y3 : ρ1[a]? = some (.int y) := by
        have := hx a ρ1[a] (List.getElem?_eq_getElem hlt)
        rw [y1] at this
        rw [List.getElem?_eq_getElem hlt, ← Option.some.inj this]
      have v1 := zvid_ok L Mm hb9 hw
      have v2 := zvid_ok L1 M1 ha y3
      have ih := fun q2 => zrk_ok E L Mm hx L1 M1 (ss := ss) (ts := ts) (fun s9 hs9 => hb s9 (List.mem_cons_of_mem _ hs9)) q2
      by_cases hup : s.1 = 1 ∨ s.1 = 3
      · rw [if_pos hup, Bool.or_eq_true, Bool.and_eq_true, Bool.and_eq_true, decide_eq_true_eq, decide_eq_true_eq, decide_eq_true_eq] at hq
        have e1 : zmc lo h s = (s.2.2.2 - x.toInt).toNat := by unfold zmc; rw [if_neg hs0, if_pos hup, v1]
        have e2 : zmc lo1 h1 s = (s.2.2.2 - y.toInt).toNat := by unfold zmc; rw [if_neg hs0, if_pos hup, v2]
        rcases hq with ⟨q1, q2⟩ | ⟨q1, q2⟩
        · exact Or.inl (by rw [e1, e2]; omega)
        · exact Or.inr ⟨by rw [e1, e2]; omega, ih q2⟩
      · rw [if_neg hup, Bool.or_eq_true, Bool.and_eq_true, Bool.and_eq_true, decide_eq_true_eq, decide_eq_true_eq, decide_eq_true_eq] at hq
        have e1 : zmc lo h s = (x.toInt - s.2.2.2).toNat := by unfold zmc; rw [if_neg hs0, if_neg hup, v1]
        have e2 : zmc lo1 h1 s = (y.toInt - s.2.2.2).toNat := by unfold zmc; rw [if_neg hs0, if_neg hup, v2]
        rcases hq with ⟨q1, q2⟩ | ⟨q1, q2⟩
        · exact Or.inl (by rw [e1, e2]; omega)
        · exact Or.inr ⟨by rw [e1, e2]; omega, ih q2⟩
