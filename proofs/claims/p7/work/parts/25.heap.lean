/-! the checker's loads and stores -/
noncomputable def zjoin (a b : zA) : Option zA := if zLe a b = true then some b else if zLe b a = true then some a else if a.1 = b.1 ∧ a.1 ≤ 3 then some (a.1, min a.2.1 b.2.1, max a.2.2 b.2.2) else none
theorem zLe_rg {t : Nat} {a b c d : Int} (h3 : t ≤ 3) (h1 : c ≤ a) (h2 : b ≤ d) : zLe (t, a, b) (t, c, d) = true := by
  have hr : zRi (t, a, b) (t, c, d) = true := by unfold zRi; rw [decide_eq_true h1, decide_eq_true h2]; rfl
  have ht : t = 0 ∨ t = 1 ∨ t = 2 ∨ t = 3 := by omega
  rcases ht with rfl | rfl | rfl | rfl <;> exact hr
theorem zjoin_ok {a b c : zA} (h : zjoin a b = some c) {ty : List Nat} {v : Value} (g : zG ty a v ∨ zG ty b v) : zG ty c v := by
  unfold zjoin at h
  split at h
  · next h1 => cases h; exact g.elim (zLe_ok h1) id
  · split at h
    · next h1 => cases h; exact g.elim id (zLe_ok h1)
    · split at h
      · next h1 =>
        cases h
        obtain ⟨ta, la, ha⟩ := a
        obtain ⟨tb, lb, hb⟩ := b
        dsimp only at h1 g ⊢
        obtain ⟨rfl, h3⟩ := h1
        rcases g with g | g
        · exact zLe_ok (zLe_rg h3 (Int.min_le_left _ _) (Int.le_max_left _ _)) g
        · exact zLe_ok (zLe_rg h3 (Int.min_le_right _ _) (Int.le_max_right _ _)) g
      · cases h
noncomputable def zrg : List (Int × Int × zA) → Int → Int → Option zA
  | [], _, _ => none
  | r :: rs, lo, hi => if r.2.1 < lo then zrg rs lo hi else if r.1 ≤ lo then (if hi ≤ r.2.1 then some r.2.2 else (match zrg rs (r.2.1 + 1) hi with
    | some a => zjoin r.2.2 a
    | none => none)) else none
theorem zrg_ok : ∀ (rs : List (Int × Int × zA)) (lo hi : Int) (a : zA), zrg rs lo hi = some a → ∀ i : Int, lo ≤ i → i ≤ hi → ∃ r ∈ rs, r.1 ≤ i ∧ i ≤ r.2.1 ∧ ∀ (ty : List Nat) (v : Value), zG ty r.2.2 v → zG ty a v
  | [], _, _, _, h, _, _, _ => by cases h
  | r :: rs, lo, hi, a, h, i, h1, h2 => by
    rw [zrg] at h
    split at h
    · obtain ⟨r9, m, q⟩ := zrg_ok rs lo hi a h i h1 h2
      exact ⟨r9, List.mem_cons_of_mem _ m, q⟩
    · split at h
      · next hn hl =>
        split at h
        · next hh =>
          cases h
          exact ⟨r, List.mem_cons_self, by omega, by omega, fun _ _ g => g⟩
        · split at h
          · next a9 ha9 =>
            by_cases hi9 : i ≤ r.2.1
            · exact ⟨r, List.mem_cons_self, by omega, hi9, fun _ _ g => zjoin_ok h (Or.inl g)⟩
            · obtain ⟨r9, m, q1, q2, q3⟩ := zrg_ok rs (r.2.1 + 1) hi a9 ha9 i (by omega) h2
              exact ⟨r9, List.mem_cons_of_mem _ m, q1, q2, fun ty v g => zjoin_ok h (Or.inr (q3 ty v g))⟩
          · cases h
      · cases h
noncomputable def zone (tt : Nat → zTy) (kd cl : Nat) (ilo ihi : Int) (t : Nat) : Option zA := if (tt t).1 = kd ∧ (kd ≠ 0 ∨ (tt t).2.1 = cl) ∧ 0 ≤ ilo ∧ ihi < ((tt t).2.2.1 : Int) then zrg (tt t).2.2.2 ilo ihi else none
noncomputable def zall (tt : Nat → zTy) (kd cl : Nat) (ilo ihi : Int) : List Nat → Option zA
  | [] => none
  | t :: ts => match zone tt kd cl ilo ihi t with
    | none => none
    | some a => if ts.isEmpty = true then some a else (match zall tt kd cl ilo ihi ts with
      | some b => zjoin a b
      | none => none)
theorem zall_ok {tt : Nat → zTy} {kd cl : Nat} {ilo ihi : Int} : ∀ {ts : List Nat} {a : zA}, zall tt kd cl ilo ihi ts = some a → ∀ t ∈ ts, ∃ b, zone tt kd cl ilo ihi t = some b ∧ ∀ (ty : List Nat) (v : Value), zG ty b v → zG ty a v
  | [], _, h, _, _ => by cases h
  | t0 :: ts, a, h, t, ht => by
    rw [zall] at h
    split at h
    · cases h
    · next a0 ha0 =>
      split at h
      · next he =>
        cases h
        have : ts = [] := List.isEmpty_iff.mp he
        subst this
        rw [List.mem_singleton.mp ht]
        exact ⟨_, ha0, fun _ _ g => g⟩
      · split at h
        · next b hb =>
          rcases List.mem_cons.mp ht with rfl | ht
          · exact ⟨a0, ha0, fun _ _ g => zjoin_ok h (Or.inl g)⟩
          · obtain ⟨c, h1, h2⟩ := zall_ok hb t ht
            exact ⟨c, h1, fun ty v g => zjoin_ok h (Or.inr (h2 ty v g))⟩
        · cases h
noncomputable def ztl (lo hi : Int) : List Nat := (List.range ((hi - lo).toNat + 1)).map (fun j => lo.toNat + j)
theorem ztl_mem {lo hi : Int} {t : Nat} (h0 : 0 ≤ lo) (h1 : lo ≤ (t : Int)) (h2 : (t : Int) ≤ hi) : t ∈ ztl lo hi := by
  unfold ztl
  exact List.mem_map.mpr ⟨t - lo.toNat, List.mem_range.mpr (by omega), by omega⟩
noncomputable def zml (me : List zMe) (r b : Nat) (off : Int) : Option Nat := (me.find? (fun m => m.1 == r && (m.2.1 == b && m.2.2.1 == off))).map (fun m => m.2.2.2)
theorem zml_ok {me : List zMe} {r b v : Nat} {off : Int} (h : zml me r b off = some v) : (r, b, off, v) ∈ me := by
  unfold zml at h
  cases hf : me.find? (fun m => m.1 == r && (m.2.1 == b && m.2.2.1 == off)) with
  | none => rw [hf] at h; cases h
  | some m =>
    rw [hf] at h
    cases h
    have h1 := List.find?_some hf
    simp only [Bool.and_eq_true, beq_iff_eq] at h1
    obtain ⟨rfl, rfl, rfl⟩ := h1
    exact List.mem_of_find?_eq_some hf
theorem zIx.fn {ρ : List Value} {b : Nat} {off : Int} {i j : Nat} (h1 : zIx ρ b off i) (h2 : zIx ρ b off j) : i = j := by
  cases b with
  | zero =>
    have e1 : off = (i : Int) := h1
    have e2 : off = (j : Int) := h2
    omega
  | succ b =>
    obtain ⟨y, a1, a2⟩ := h1
    obtain ⟨z, b1, b2⟩ := h2
    rw [a1] at b1
    cases b1
    omega
/-! shapes -/
theorem zsh0 {T : zTy} {e : zE} (h : z_sh T e) (hk : T.1 = 0) : ∃ fs, e = .inr (T.2.1, fs) ∧ fs.length = T.2.2.1 := by
  unfold z_sh at h
  rw [hk] at h
  obtain ⟨t, n, f | f | f | f | f⟩ | ⟨c, fs⟩ := e
  all_goals first | exact ⟨_, by rw [h.1], h.2⟩ | exact h.elim
theorem zsh1 {T : zTy} {e : zE} (h : z_sh T e) (hk : T.1 = 1) : ∃ f, e = .inl (0, (T.2.2.1, .inl f)) := by
  unfold z_sh at h
  rw [hk] at h
  split at h
  all_goals first | exact ⟨_, by rw [h]⟩ | (exfalso; omega) | exact h.elim
theorem zsh2 {T : zTy} {e : zE} (h : z_sh T e) (hk : T.1 = 2) : ∃ f, e = .inl (1, (T.2.2.1, .inl f)) := by
  unfold z_sh at h
  rw [hk] at h
  split at h
  all_goals first | exact ⟨_, by rw [h]⟩ | (exfalso; omega) | exact h.elim
theorem zsh3 {T : zTy} {e : zE} (h : z_sh T e) (hk : T.1 = 3) : ∃ f, e = .inl (2, (T.2.2.1, .inr (.inl f))) := by
  unfold z_sh at h
  rw [hk] at h
  split at h
  all_goals first | exact ⟨_, by rw [h]⟩ | (exfalso; omega) | exact h.elim
theorem zsh4 {T : zTy} {e : zE} (h : z_sh T e) (hk : T.1 = 4) : ∃ f, e = .inl (3, (T.2.2.1, .inr (.inr (.inr (.inr f))))) := by
  unfold z_sh at h
  rw [hk] at h
  split at h
  all_goals first | exact ⟨_, by rw [h]⟩ | (exfalso; omega) | exact h.elim
theorem zsh_rd {T : zTy} {e : zE} {i : Nat} (h : z_sh T e) (hi : i < T.2.2.1) (hk : T.1 ≤ 4) : ∃ v, z_rd e i = some v := by
  have ht : T.1 = 0 ∨ T.1 = 1 ∨ T.1 = 2 ∨ T.1 = 3 ∨ T.1 = 4 := by omega
  rcases ht with k | k | k | k | k
  · obtain ⟨fs, rfl, hl⟩ := zsh0 h k
    exact ⟨fs[i]'(by omega), List.getElem?_eq_getElem (by omega)⟩
  · obtain ⟨f, rfl⟩ := zsh1 h k
    exact ⟨_, by rw [z_rd0, if_pos hi]⟩
  · obtain ⟨f, rfl⟩ := zsh2 h k
    exact ⟨_, by rw [z_rd1, if_pos hi]⟩
  · obtain ⟨f, rfl⟩ := zsh3 h k
    exact ⟨_, by rw [z_rd2, if_pos hi]⟩
  · obtain ⟨f, rfl⟩ := zsh4 h k
    exact ⟨_, by rw [z_rd3, if_pos hi]⟩
/-! loads -/
noncomputable def zload (tt : Nat → zTy) (kd cl : Nat) (q : zQ) (r b : Nat) (off ilo ihi : Int) (stk : List Nat) : Option zQ :=
  if (zav q.1 r).1 = 2 ∧ 0 ≤ (zav q.1 r).2.1 then (match zall tt kd cl ilo ihi (ztl (zav q.1 r).2.1 (zav q.1 r).2.2) with
    | some a => (match zml q.2.1 r b off with
      | some v => some (q.1, q.2.1, q.2.2.1, v :: stk)
      | none => some (q.1 ++ [(a, 0, 0)], (r, b, off, q.1.length) :: q.2.1, q.2.2.1, q.1.length :: stk))
    | none => none) else none
theorem zload_ok {tt : Nat → zTy} {kd cl : Nat} {q q' : zQ} {r b : Nat} {off ilo ihi : Int} {stk : List Nat} {ty : List Nat} {ρ : List Value} {lo : zL} {st : List Value} {h : zH} {vr : Value} {i : Nat} (hkd : kd ≤ 4) (T : zTY tt ty h) (E : zEv ty ρ q.1) (Mm : zMm h ρ q.2.1) (L : zLo ρ q.2.2.1 lo) (S : zSk ρ stk st) (hr : ρ[r]? = some vr) (hx : zIx ρ b off i) (h1 : ilo ≤ (i : Int)) (h2 : (i : Int) ≤ ihi) (hq : zload tt kd cl q r b off ilo ihi stk = some q') :
    ∃ (a t : Nat) (e : zE) (v : Value) (ρ' : List Value), vr = .ref a ∧ ty[a]? = some t ∧ h[a]? = some e ∧ z_sh (tt t) e ∧ (tt t).1 = kd ∧ (kd ≠ 0 ∨ (tt t).2.1 = cl) ∧ i < (tt t).2.2.1 ∧ z_rd e i = some v ∧ zRx ρ ρ' ∧ zEv ty ρ' q'.1 ∧ zMm h ρ' q'.2.1 ∧ zLo ρ' q'.2.2.1 lo ∧ zSk ρ' q'.2.2.2 (v :: st) := by
  unfold zload at hq
  split at hq
  case isFalse => cases hq
  next hc =>
  split at hq
  case h_2 => cases hq
  next a9 ha9 =>
  obtain ⟨a, t, rfl, ht, t1, t2⟩ := zG2 (E.at hr) hc.1
  obtain ⟨a8, hz, hle⟩ := zall_ok ha9 t (ztl_mem hc.2 t1 t2)
  unfold zone at hz
  split at hz
  case isFalse => cases hz
  next hz2 =>
  have hl : a < h.length := by rw [← T.1]; exact (List.getElem?_eq_some_iff.mp ht).1
  have he : h[a]? = some h[a] := List.getElem?_eq_getElem hl
  obtain ⟨sh, vals⟩ := T.2.2 a t h[a] ht he
  have hin : i < (tt t).2.2.1 := by have := hz2.2.2.2; omega
  obtain ⟨v, hv⟩ := zsh_rd (i := i) sh hin (by rw [hz2.1]; exact hkd)
  obtain ⟨rg, m1, m2, m3, m4⟩ := zrg_ok _ _ _ _ hz (i : Int) h1 h2
  have gv : zG ty a9 v := hle ty v (m4 ty v (vals i v hv rg m1 m2 m3))
  split at hq
  · next w hw =>
    cases hq
    obtain ⟨a7, e7, i7, v7, k1, k2, k3, k4, k5⟩ := Mm _ (zml_ok hw)
    dsimp only at k1 k3 k5
    rw [hr] at k1
    cases k1
    have := hx.fn k3
    subst this
    rw [he] at k2
    cases k2
    rw [hv] at k4
    cases k4
    exact ⟨a, t, h[a], v, ρ, rfl, ht, he, sh, hz2.1, hz2.2.1, hin, hv, zRx.rf, E, Mm, L, k5, S⟩
  · cases hq
    refine ⟨a, t, h[a], v, ρ ++ [v], rfl, ht, he, sh, hz2.1, hz2.2.1, hin, hv, zRx.app, E.push0 gv, ?_, L.mono zRx.app, E.new v, S.mono zRx.app⟩
    intro m hm
    rcases List.mem_cons.mp hm with rfl | hm
    · exact ⟨a, h[a], i, v, zRx.app _ _ hr, he, hx.mono zRx.app, hv, E.new v⟩
    · exact Mm.mono zRx.app m hm
noncomputable def zq_get : zQop := fun tt _ _ a b _ q => match q.2.2.2 with
  | r :: stk => zload tt 0 a q r 0 (b : Int) (b : Int) (b : Int) stk
  | _ => none
theorem zSd_get : zSd zo_get zq_get := by
  intro tt sx dq d ms a b c k ty ρ q q' lo st h hd T E Mm L S hq
  unfold zq_get at hq
  split at hq
  case h_2 => cases hq
  next r stk hs =>
  rw [hs] at S
  match st, S with
  | vr :: st, S =>
  obtain ⟨ad, t, e, v, ρ', rfl, ht, he, sh, k0, kc, hin, hv, r1, r2, r3, r4, r5⟩ := zload_ok (by decide) T E Mm L S.2 S.1 (b := 0) (i := b) rfl (Int.le_refl _) (Int.le_refl _) hq
  obtain ⟨fs, rfl, hl⟩ := zsh0 sh k0
  have hcl : (tt t).2.1 = a := kc.resolve_left (fun h => h rfl)
  refine ⟨ρ', lo, v :: st, h, ?_, r1, T, r2, r3, r4, r5, zFm.rf⟩
  unfold zo_get
  dsimp only
  rw [he]
  dsimp only
  rw [if_pos hcl, show fs[b]? = some v from hv]
/-- an index: where it comes from -/
noncomputable def zcn (env : List zEn) (i : Nat) : Nat × Int := match env[i]? with
  | some e => if e.1.2.1 = e.1.2.2 then (0, e.1.2.1) else if e.2.1 ≠ 0 then (e.2.1, e.2.2) else (i + 1, 0)
  | none => (i + 1, 0)
theorem zcn_ok {ty : List Nat} {ρ : List Value} {env : List zEn} {i n : Nat} {x : Int32} (E : zEv ty ρ env) (hx : ρ[i]? = some (.int x)) (h0 : (zav env i).1 = 0) (hn : (n : Int) = x.toInt) : zIx ρ (zcn env i).1 (zcn env i).2 n := by
  obtain ⟨e, he, hz⟩ := E.ex hx
  obtain ⟨g1, g2⟩ := E.2 i e _ he hx
  unfold zcn
  rw [he]
  dsimp only
  by_cases h1 : e.1.2.1 = e.1.2.2
  · rw [if_pos h1]
    rw [hz] at h0
    obtain ⟨x9, hx9, l1, l2⟩ := zG0 g1 h0
    cases hx9
    show e.1.2.1 = (n : Int)
    omega
  · rw [if_neg h1]
    by_cases h2 : e.2.1 ≠ 0
    · rw [if_pos h2]
      obtain ⟨b, hb⟩ : ∃ b, e.2.1 = b + 1 := ⟨e.2.1 - 1, by omega⟩
      obtain ⟨x9, y, q1, q2, q3⟩ := g2 b hb
      cases q1
      dsimp only
      rw [hb]
      exact ⟨y, q2, by omega⟩
    · rw [if_neg h2]
      exact ⟨x, hx, by omega⟩
noncomputable def zq_ald (kd : Nat) : zQop := fun tt _ _ _ _ _ q => match q.2.2.2 with
  | j :: r :: stk => if (zav q.1 j).1 = 0 ∧ 0 ≤ (zav q.1 j).2.1 then zload tt kd 0 q r (zcn q.1 j).1 (zcn q.1 j).2 (zav q.1 j).2.1 (zav q.1 j).2.2 stk else none
  | _ => none
theorem zSd_ald {op : zNop} {kd : Nat} (hk : kd ≤ 4) (hk0 : kd ≠ 0) (hop : ∀ (sx : zX) (d a b : Nat) (c : Int) (k : Nat) (lo : zL) (st : List Value) (h : zH) (ad : Nat) (T : zTy) (e : zE) (j : Int32) (v : Value), h[ad]? = some e → z_sh T e → T.1 = kd → z_in j T.2.2.1 = true → j.toNatClampNeg < T.2.2.1 → z_rd e j.toNatClampNeg = some v → op sx d a b c k lo (.int j :: .ref ad :: st) h = zn (k + 1) lo (v :: st) h) : zSd op (zq_ald kd) := by
  intro tt sx dq d ms a b c k ty ρ q q' lo st h hd T E Mm L S hq
  unfold zq_ald at hq
  split at hq
  case h_2 => cases hq
  next ij r stk hs =>
  rw [hs] at S
  match st, S with
  | vj :: vr :: st, S =>
  split at hq
  case isFalse => cases hq
  next hc =>
  obtain ⟨j, rfl, j1, j2⟩ := zG0 (E.at S.1) hc.1
  have hn : (j.toNatClampNeg : Int) = j.toInt := by
    have : j.toNatClampNeg = j.toInt.toNat := rfl
    omega
  obtain ⟨ad, t, e, v, ρ', rfl, ht, he, sh, k0, kc, hin, hv, r1, r2, r3, r4, r5⟩ := zload_ok hk T E Mm L S.2.2 S.2.1 (zcn_ok E S.1 hc.1 hn) (by omega) (by omega) hq
  exact ⟨ρ', lo, v :: st, h, hop sx d a b c k lo st h ad (tt t) e j v he sh k0 (z_inn (by omega) (by omega)).1 hin hv, r1, T, r2, r3, r4, r5, zFm.rf⟩
theorem zSd_iald : zSd zo_iald (zq_ald 1) := zSd_ald (by decide) (by decide) (fun sx d a b c k lo st h ad T e j v he sh k0 hin hl hv => by
  obtain ⟨f, rfl⟩ := zsh1 sh k0
  rw [z_rd0, if_pos hl] at hv
  cases hv
  unfold zo_iald
  dsimp only
  rw [he]
  exact if_pos hin)
theorem zSd_bald : zSd zo_bald (zq_ald 2) := zSd_ald (by decide) (by decide) (fun sx d a b c k lo st h ad T e j v he sh k0 hin hl hv => by
  obtain ⟨f, rfl⟩ := zsh2 sh k0
  rw [z_rd1, if_pos hl] at hv
  cases hv
  unfold zo_bald
  dsimp only
  rw [he]
  exact if_pos hin)
theorem zSd_aald : zSd zo_aald (zq_ald 4) := zSd_ald (by decide) (by decide) (fun sx d a b c k lo st h ad T e j v he sh k0 hin hl hv => by
  obtain ⟨f, rfl⟩ := zsh4 sh k0
  rw [z_rd3, if_pos hl] at hv
  cases hv
  unfold zo_aald
  dsimp only
  rw [he]
  exact if_pos hin)
/-! stores -/
noncomputable def zkp (env : List zEn) (tlo thi ilo ihi : Int) (m : zMe) : Bool :=
  (decide ((zav env m.1).1 = 2) && (decide ((zav env m.1).2.2 < tlo) || decide (thi < (zav env m.1).2.1))) ||
  (if m.2.1 = 0 then decide (m.2.2.1 < ilo) || decide (ihi < m.2.2.1) else decide ((zav env (m.2.1 - 1)).1 = 0) && (decide ((zav env (m.2.1 - 1)).2.2 + m.2.2.1 < ilo) || decide (ihi < (zav env (m.2.1 - 1)).2.1 + m.2.2.1)))
/-- an entry that is kept: another cell, or another place -/
theorem zkp_ok {ty : List Nat} {ρ : List Value} {env : List zEn} {tlo thi ilo ihi : Int} {m : zMe} (E : zEv ty ρ env) (hk : zkp env tlo thi ilo ihi m = true) {a i : Nat} (hr : ρ[m.1]? = some (.ref a)) (hx : zIx ρ m.2.1 m.2.2.1 i) : (∀ t, ty[a]? = some t → ¬ (tlo ≤ (t : Int) ∧ (t : Int) ≤ thi)) ∨ ¬ (ilo ≤ (i : Int) ∧ (i : Int) ≤ ihi) := by
  unfold zkp at hk
  rw [Bool.or_eq_true, Bool.and_eq_true, Bool.or_eq_true] at hk
  simp only [decide_eq_true_eq] at hk
  rcases hk with ⟨h1, h2⟩ | h1
  · refine Or.inl (fun t ht hn => ?_)
    obtain ⟨a9, t9, e9, g0, g1, g2⟩ := zG2 (E.at hr) h1
    cases e9
    rw [ht] at g0
    cases g0
    omega
  · refine Or.inr (fun hn => ?_)
    by_cases hb : m.2.1 = 0
    · rw [if_pos hb, Bool.or_eq_true, decide_eq_true_eq, decide_eq_true_eq] at h1
      rw [hb] at hx
      have e : m.2.2.1 = (i : Int) := hx
      omega
    · rw [if_neg hb, Bool.and_eq_true, Bool.or_eq_true, decide_eq_true_eq, decide_eq_true_eq, decide_eq_true_eq] at h1
      obtain ⟨b, hb9⟩ : ∃ b, m.2.1 = b + 1 := ⟨m.2.1 - 1, by omega⟩
      rw [hb9] at hx h1
      obtain ⟨y, y1, y2⟩ := hx
      rw [Nat.add_sub_cancel] at h1
      obtain ⟨y9, e9, g1, g2⟩ := zG0 (E.at y1) h1.1
      cases e9
      omega
theorem zMm.wr {ty : List Nat} {ρ : List Value} {env : List zEn} {me : List zMe} {h : zH} {a t i r b v : Nat} {off tlo thi ilo ihi : Int} {e e' : zE} {w : Value} (E : zEv ty ρ env) (Mm : zMm h ρ me) (ht : ty[a]? = some t) (t1 : tlo ≤ (t : Int)) (t2 : (t : Int) ≤ thi) (i1 : ilo ≤ (i : Int)) (i2 : (i : Int) ≤ ihi) (he : h[a]? = some e) (hr : ∀ j, z_rd e' j = if j = i then some w else z_rd e j) (hR : ρ[r]? = some (.ref a)) (hx : zIx ρ b off i) (hv : ρ[v]? = some w) : zMm (h.set a e') ρ ((r, b, off, v) :: me.filter (zkp env tlo thi ilo ihi)) := by
  have hl := (List.getElem?_eq_some_iff.mp he).1
  intro m hm
  rcases List.mem_cons.mp hm with rfl | hm
  · exact ⟨a, e', i, w, hR, List.getElem?_set_self hl, hx, by rw [hr i, if_pos rfl], hv⟩
  · obtain ⟨hm1, hm2⟩ := List.mem_filter.mp hm
    obtain ⟨a9, e9, i9, v9, k1, k2, k3, k4, k5⟩ := Mm m hm1
    by_cases ha : a9 = a
    · subst ha
      rw [he] at k2
      cases k2
      have hne : i9 ≠ i := fun q => by
        subst q
        rcases zkp_ok E hm2 k1 k3 with z | z
        · exact z t ht ⟨t1, t2⟩
        · exact z ⟨i1, i2⟩
      exact ⟨a9, e', i9, v9, k1, List.getElem?_set_self hl, k3, by rw [hr i9, if_neg hne]; exact k4, k5⟩
    · exact ⟨a9, e9, i9, v9, k1, by rw [List.getElem?_set_ne (fun q => ha q.symm)]; exact k2, k3, k4, k5⟩
noncomputable def zst (rs : List (Int × Int × zA)) (ilo ihi : Int) (a : zA) : Bool := rs.all (fun r => decide (r.2.1 < ilo) || (decide (ihi < r.1) || zLe a r.2.2))
theorem zst_ok {rs : List (Int × Int × zA)} {ilo ihi : Int} {a : zA} (h : zst rs ilo ihi a = true) {ty : List Nat} {v : Value} (g : zG ty a v) {i : Nat} (h1 : ilo ≤ (i : Int)) (h2 : (i : Int) ≤ ihi) : ∀ r ∈ rs, r.1 ≤ (i : Int) → (i : Int) ≤ r.2.1 → zG ty r.2.2 v := by
  intro r hr g1 g2
  have := List.all_eq_true.mp h r hr
  rw [Bool.or_eq_true, Bool.or_eq_true, decide_eq_true_eq, decide_eq_true_eq] at this
  rcases this with h9 | h9 | h9
  · omega
  · omega
  · exact zLe_ok h9 g
noncomputable def zcv (ms : List zMod) (t : Nat) (lo hi : Int) : Bool := ms.any (fun m => decide (m.1 = t) && (decide (m.2.1 ≤ lo) && decide (hi ≤ m.2.2)))
theorem zcv_ok {ms : List zMod} {t : Nat} {lo hi : Int} (h : zcv ms t lo hi = true) {i : Nat} (h1 : lo ≤ (i : Int)) (h2 : (i : Int) ≤ hi) : zIn ms t i := by
  obtain ⟨m, hm, h9⟩ := List.any_eq_true.mp h
  rw [Bool.and_eq_true, Bool.and_eq_true, decide_eq_true_eq, decide_eq_true_eq, decide_eq_true_eq] at h9
  exact ⟨m, hm, h9.1, by omega, by omega⟩
noncomputable def zfit (c : Int) (V : zA) : Bool := (decide (c = 0) && decide (V.1 = 0)) || ((decide (c = 1) && (decide (V.1 = 0) && (decide (0 ≤ V.2.1) && decide (V.2.2 ≤ 1)))) || (decide (c = 2) && (decide (V.1 = 2) || (decide (V.1 = 3) || decide (V.1 = 4)))))
theorem zfit_ok {c : Int} {V : zA} {ty : List Nat} {v : Value} (h : zfit c V = true) (g : zG ty V v) : z_fit c v = true := by
  unfold zfit at h
  simp only [Bool.or_eq_true, Bool.and_eq_true, decide_eq_true_eq] at h
  rcases h with ⟨rfl, h⟩ | ⟨rfl, h, h1, h2⟩ | ⟨rfl, h⟩
  · obtain ⟨x, rfl, -⟩ := zG0 g h; rfl
  · obtain ⟨x, rfl, g1, g2⟩ := zG0 g h
    have hx : x.toInt = 0 ∨ x.toInt = 1 := by omega
    have : x = 0 ∨ x = 1 := hx.imp (fun e => Int32.toInt_inj.mp (by rw [e]; rfl)) (fun e => Int32.toInt_inj.mp (by rw [e]; rfl))
    rcases this with rfl | rfl <;> rfl
  · rcases h with h | h | h
    · obtain ⟨i, t, rfl, -⟩ := zG2 g h; rfl
    · rcases zG3 g h with rfl | ⟨i, t, rfl, -⟩ <;> rfl
    · have := zG4 g h; subst this; rfl
noncomputable def zq_put : zQop := fun tt _ ms a b c q => match q.2.2.2 with
  | v :: r :: stk => if (zav q.1 r).1 = 2 ∧ (zav q.1 r).2.1 = (zav q.1 r).2.2 ∧ 0 ≤ (zav q.1 r).2.1 ∧ (tt (zav q.1 r).2.1.toNat).1 = 0 ∧ (tt (zav q.1 r).2.1.toNat).2.1 = a ∧ b < (tt (zav q.1 r).2.1.toNat).2.2.1 ∧ zfit c (zav q.1 v) = true ∧ zst (tt (zav q.1 r).2.1.toNat).2.2.2 (b : Int) (b : Int) (zav q.1 v) = true ∧ zcv ms (zav q.1 r).2.1.toNat (b : Int) (b : Int) = true
      then some (q.1, (r, 0, (b : Int), v) :: q.2.1.filter (zkp q.1 (zav q.1 r).2.1 (zav q.1 r).2.1 (b : Int) (b : Int)), q.2.2.1, stk) else none
  | _ => none
theorem zSd_put : zSd zo_put zq_put := by
  intro tt sx dq d ms a b c k ty ρ q q' lo st h hd T E Mm L S hq
  unfold zq_put at hq
  split at hq
  case h_2 => cases hq
  next iv r stk hs =>
  rw [hs] at S
  match st, S with
  | vv :: vr :: st, S =>
  split at hq
  case isFalse => cases hq
  next hc =>
  cases hq
  obtain ⟨c1, c2, c3, c4, c5, c6, c7, c8, c9⟩ := hc
  obtain ⟨ad, t, rfl, ht, t1, t2⟩ := zG2 (E.at S.2.1) c1
  have et : (zav q.1 r).2.1.toNat = t := by omega
  rw [et] at c4 c5 c6 c8 c9
  have hl : ad < h.length := by rw [← T.1]; exact (List.getElem?_eq_some_iff.mp ht).1
  have he : h[ad]? = some h[ad] := List.getElem?_eq_getElem hl
  obtain ⟨fs, hfs, hlen⟩ := zsh0 (T.2.2 ad t _ ht he).1 c4
  rw [hfs] at he
  have hrd := fun j => z_rd_obj (c := (tt t).2.1) (fs := fs) (i := b) (v := vv) (by omega) j
  have hgv := E.at S.1
  refine ⟨ρ, lo, st, h.set ad (.inr ((tt t).2.1, fs.set b vv)), ?_, zRx.rf, T.wr ht he ?_ hrd (zst_ok c8 hgv (Int.le_refl _) (Int.le_refl _)), E, zMm.wr E Mm ht t1 (by omega) (Int.le_refl _) (Int.le_refl _) he hrd S.2.1 (b := 0) rfl S.1, L, S.2.2, zFm.wr ht he hrd (zcv_ok c9 (Int.le_refl _) (Int.le_refl _))⟩
  · unfold zo_put
    dsimp only
    rw [he]
    dsimp only
    rw [if_pos ⟨c5, by omega, zfit_ok c7 hgv⟩]
  · unfold z_sh
    rw [c4]
    exact ⟨rfl, by rw [List.length_set]; exact hlen⟩
noncomputable def zq_ast (kd : Nat) (P : zA → Bool) (g : zA → zA) : zQop := fun tt _ ms _ _ _ q => match q.2.2.2 with
  | v :: j :: r :: stk => if (zav q.1 r).1 = 2 ∧ (zav q.1 r).2.1 = (zav q.1 r).2.2 ∧ 0 ≤ (zav q.1 r).2.1 ∧ (tt (zav q.1 r).2.1.toNat).1 = kd ∧ (zav q.1 j).1 = 0 ∧ 0 ≤ (zav q.1 j).2.1 ∧ (zav q.1 j).2.2 < ((tt (zav q.1 r).2.1.toNat).2.2.1 : Int) ∧ P (zav q.1 v) = true ∧ zst (tt (zav q.1 r).2.1.toNat).2.2.2 (zav q.1 j).2.1 (zav q.1 j).2.2 (g (zav q.1 v)) = true ∧ zcv ms (zav q.1 r).2.1.toNat (zav q.1 j).2.1 (zav q.1 j).2.2 = true
      then some (q.1 ++ [(g (zav q.1 v), 0, 0)], (r, (zcn q.1 j).1, (zcn q.1 j).2, q.1.length) :: q.2.1.filter (zkp q.1 (zav q.1 r).2.1 (zav q.1 r).2.1 (zav q.1 j).2.1 (zav q.1 j).2.2), q.2.2.1, stk) else none
  | _ => none
theorem zSd_ast {op : zNop} {kd : Nat} {P : zA → Bool} {g : zA → zA} (hop : ∀ (sx : zX) (d a b : Nat) (c : Int) (k : Nat) (lo : zL) (st : List Value) (h : zH) (ty : List Nat) (ad : Nat) (T : zTy) (e : zE) (j : Int32) (V : zA) (v : Value), h[ad]? = some e → z_sh T e → T.1 = kd → z_in j T.2.2.1 = true → j.toNatClampNeg < T.2.2.1 → zG ty V v → P V = true → ∃ e' v', z_sh T e' ∧ zG ty (g V) v' ∧ (∀ i, z_rd e' i = if i = j.toNatClampNeg then some v' else z_rd e i) ∧ op sx d a b c k lo (v :: .int j :: .ref ad :: st) h = zn (k + 1) lo st (h.set ad e')) : zSd op (zq_ast kd P g) := by
  intro tt sx dq d ms a b c k ty ρ q q' lo st h hd T E Mm L S hq
  unfold zq_ast at hq
  split at hq
  case h_2 => cases hq
  next iv ij r stk hs =>
  rw [hs] at S
  match st, S with
  | vv :: vj :: vr :: st, S =>
  obtain ⟨s1, s2, s3, s4⟩ := S
  split at hq
  case isFalse => cases hq
  next hc =>
  cases hq
  obtain ⟨c1, c2, c3, c4, c5, c6, c7, c8, c9, c10⟩ := hc
  obtain ⟨ad, t, rfl, ht, t1, t2⟩ := zG2 (E.at s3) c1
  obtain ⟨j, rfl, j1, j2⟩ := zG0 (E.at s2) c5
  have et : (zav q.1 r).2.1.toNat = t := by omega
  rw [et] at c4 c7 c9 c10
  have hl : ad < h.length := by rw [← T.1]; exact (List.getElem?_eq_some_iff.mp ht).1
  have he : h[ad]? = some h[ad] := List.getElem?_eq_getElem hl
  have hn : (j.toNatClampNeg : Int) = j.toInt := by
    have : j.toNatClampNeg = j.toInt.toNat := rfl
    omega
  obtain ⟨zi, zl, -⟩ := z_inn (i := j) (n := (tt t).2.2.1) (by omega) (by omega)
  obtain ⟨e', v', sh', gv', hrd, ho⟩ := hop sx d a b c k lo st h ty ad (tt t) h[ad] j _ vv he (T.2.2 ad t _ ht he).1 c4 zi zl (E.at s1) c8
  have E' := E.push0 gv'
  have hw : zMm (h.set ad e') (ρ ++ [v']) ((r, (zcn q.1 ij).1, (zcn q.1 ij).2, q.1.length) :: q.2.1.filter (zkp q.1 (zav q.1 r).2.1 (zav q.1 r).2.1 (zav q.1 ij).2.1 (zav q.1 ij).2.2)) := by
    intro m hm
    rcases List.mem_cons.mp hm with rfl | hm
    · exact ⟨ad, e', j.toNatClampNeg, v', zRx.app _ _ s3, List.getElem?_set_self hl, (zcn_ok E s2 c5 hn).mono zRx.app, by rw [hrd _, if_pos rfl], E.new v'⟩
    · obtain ⟨hm1, hm2⟩ := List.mem_filter.mp hm
      obtain ⟨a9, e9, i9, v9, k1, k2, k3, k4, k5⟩ := Mm m hm1
      by_cases ha : a9 = ad
      · subst ha
        rw [he] at k2
        cases k2
        have hne : i9 ≠ j.toNatClampNeg := fun z => by
          rcases zkp_ok E hm2 k1 k3 with z9 | z9
          · exact z9 t ht ⟨t1, by omega⟩
          · exact z9 ⟨by omega, by omega⟩
        exact ⟨a9, e', i9, v9, zRx.app _ _ k1, List.getElem?_set_self hl, k3.mono zRx.app, by rw [hrd i9, if_neg hne]; exact k4, zRx.app _ _ k5⟩
      · exact ⟨a9, e9, i9, v9, zRx.app _ _ k1, by rw [List.getElem?_set_ne (fun z => ha z.symm)]; exact k2, k3.mono zRx.app, k4, zRx.app _ _ k5⟩
  exact ⟨ρ ++ [v'], lo, st, h.set ad e', ho, zRx.app, T.wr ht he sh' hrd (zst_ok c9 gv' (by omega) (by omega)), E', hw, L.mono zRx.app, s4.mono zRx.app, zFm.wr ht he hrd (zcv_ok c10 (by omega) (by omega))⟩
theorem zSd_iast : zSd zo_iast (zq_ast 1 zisI id) := zSd_ast (fun sx d a b c k lo st h ty ad T e j V v he sh k0 hin hl g hP => by
  obtain ⟨x, rfl, x1, x2⟩ := zG0 g (of_decide_eq_true hP)
  obtain ⟨f, rfl⟩ := zsh1 sh k0
  refine ⟨_, .int x, ?_, g, fun i => z_rd_int hl i, ?_⟩
  · unfold z_sh
    rw [k0]
    exact rfl
  · unfold zo_iast
    dsimp only
    rw [he]
    exact if_pos hin)
theorem zSd_bast : zSd zo_bast (zq_ast 2 zisI (fun _ => zFull)) := zSd_ast (fun sx d a b c k lo st h ty ad T e j V v he sh k0 hin hl g hP => by
  obtain ⟨x, rfl, x1, x2⟩ := zG0 g (of_decide_eq_true hP)
  obtain ⟨f, rfl⟩ := zsh2 sh k0
  refine ⟨_, .int (vp_nar .byte x), ?_, zFull_ok _, fun i => z_rd_byte hl i, ?_⟩
  · unfold z_sh
    rw [k0]
    exact rfl
  · unfold zo_bast
    dsimp only
    rw [he]
    exact if_pos hin)
theorem zSd_last : zSd zo_last (zq_ast 3 zisJ id) := zSd_ast (fun sx d a b c k lo st h ty ad T e j V v he sh k0 hin hl g hP => by
  obtain ⟨x, rfl, x1, x2⟩ := zG1 g (of_decide_eq_true hP)
  obtain ⟨f, rfl⟩ := zsh3 sh k0
  refine ⟨_, .long x, ?_, g, fun i => z_rd_long hl i, ?_⟩
  · unfold z_sh
    rw [k0]
    exact rfl
  · unfold zo_last
    dsimp only
    rw [he]
    exact if_pos hin)
