section
/-! the checker's loads and stores -/
noncomputable def zjoin (a b : zA) : Option zA := if zLe a b = true then some b else if zLe b a = true then some a else if a.1 = b.1 ∧ a.1 ≤ 3 then some (a.1, min a.2.1 b.2.1, max a.2.2 b.2.2) else none
theorem zLe_rg {t : Nat} {a b c d : Int} (h3 : t ≤ 3) (h1 : c ≤ a) (h2 : b ≤ d) : zLe (t, a, b) (t, c, d) = true := by
  have hr : zRi (t, a, b) (t, c, d) = true := by unfold zRi; rw [decide_eq_true h1, decide_eq_true h2]; rfl
  have ht : t = 0 ∨ t = 1 ∨ t = 2 ∨ t = 3 := by omega
  rcases ht with rfl | rfl | rfl | rfl <;> exact hr
theorem zjoin_ok {a b c : zA} (h : zjoin a b = some c) {ty : List Nat} {v : Value} (g : zG ty a v ∨ zG ty b v) : zG ty c v := by
  unfold zjoin at h
  split at h
  · next h1 => cases h; exact g.elim (zLe_ok h1) id
  · split at h
    · next h1 => cases h; exact g.elim id (zLe_ok h1)
    · split at h
      · next h1 =>
        cases h
        obtain ⟨ta, la, ha⟩ := a
        obtain ⟨tb, lb, hb⟩ := b
        dsimp only at h1 g ⊢
        obtain ⟨rfl, h3⟩ := h1
        rcases g with g | g
        · exact zLe_ok (zLe_rg h3 (Int.min_le_left _ _) (Int.le_max_left _ _)) g
        · exact zLe_ok (zLe_rg h3 (Int.min_le_right _ _) (Int.le_max_right _ _)) g
      · cases h
noncomputable def zrg : List (Int × Int × zA) → Int → Int → Option zA
  | [], _, _ => none
  | r :: rs, lo, hi => if r.2.1 < lo then zrg rs lo hi else if r.1 ≤ lo then (if hi ≤ r.2.1 then some r.2.2 else (match zrg rs (r.2.1 + 1) hi with
    | some a => zjoin r.2.2 a
    | none => none)) else none
theorem zrg_ok : ∀ (rs : List (Int × Int × zA)) (lo hi : Int) (a : zA), zrg rs lo hi = some a → ∀ i : Int, lo ≤ i → i ≤ hi → ∃ r ∈ rs, r.1 ≤ i ∧ i ≤ r.2.1 ∧ ∀ (ty : List Nat) (v : Value), zG ty r.2.2 v → zG ty a v
  | [], _, _, _, h, _, _, _ => by cases h
  | r :: rs, lo, hi, a, h, i, h1, h2 => by
    rw [zrg] at h
    split at h
    · obtain ⟨r9, m, q⟩ := zrg_ok rs lo hi a h i h1 h2
      exact ⟨r9, List.mem_cons_of_mem _ m, q⟩
    · split at h
      · next hn hl =>
        split at h
        · next hh =>
          cases h
          exact ⟨r, List.mem_cons_self, by omega, by omega, fun _ _ g => g⟩
        · split at h
          · next a9 ha9 =>
            by_cases hi9 : i ≤ r.2.1
            · exact ⟨r, List.mem_cons_self, by omega, hi9, fun _ _ g => zjoin_ok h (Or.inl g)⟩
            · obtain ⟨r9, m, q1, q2, q3⟩ := zrg_ok rs (r.2.1 + 1) hi a9 ha9 i (by omega) h2
              exact ⟨r9, List.mem_cons_of_mem _ m, q1, q2, fun ty v g => zjoin_ok h (Or.inr (q3 ty v g))⟩
          · cases h
      · cases h
noncomputable def zone (tt : Nat → zTy) (kd cl : Nat) (ilo ihi : Int) (t : Nat) : Option zA := if (tt t).1 = kd ∧ (kd ≠ 0 ∨ (tt t).2.1 = cl) ∧ 0 ≤ ilo ∧ ihi < ((tt t).2.2.1 : Int) then zrg (tt t).2.2.2 ilo ihi else none
noncomputable def zall (tt : Nat → zTy) (kd cl : Nat) (ilo ihi : Int) : List Nat → Option zA
  | [] => none
  | t :: ts => match zone tt kd cl ilo ihi t with
    | none => none
    | some a => if ts.isEmpty = true then some a else (match zall tt kd cl ilo ihi ts with
      | some b => zjoin a b
      | none => none)
theorem zall_ok {tt : Nat → zTy} {kd cl : Nat} {ilo ihi : Int} : ∀ {ts : List Nat} {a : zA}, zall tt kd cl ilo ihi ts = some a → ∀ t ∈ ts, ∃ b, zone tt kd cl ilo ihi t = some b ∧ ∀ (ty : List Nat) (v : Value), zG ty b v → zG ty a v
  | [], _, h, _, _ => by cases h
  | t0 :: ts, a, h, t, ht => by
    rw [zall] at h
    split at h
    · cases h
    · next a0 ha0 =>
      split at h
      · next he =>
        cases h
        have : ts = [] := List.isEmpty_iff.mp he
        subst this
        rw [List.mem_singleton.mp ht]
        exact ⟨_, ha0, fun _ _ g => g⟩
      · split at h
        · next b hb =>
          rcases List.mem_cons.mp ht with rfl | ht
          · exact ⟨a0, ha0, fun _ _ g => zjoin_ok h (Or.inl g)⟩
          · obtain ⟨c, h1, h2⟩ := zall_ok hb t ht
            exact ⟨c, h1, fun ty v g => zjoin_ok h (Or.inr (h2 ty v g))⟩
        · cases h
noncomputable def ztl (lo hi : Int) : List Nat := (List.range ((hi - lo).toNat + 1)).map (fun j => lo.toNat + j)
theorem ztl_mem {lo hi : Int} {t : Nat} (h0 : 0 ≤ lo) (h1 : lo ≤ (t : Int)) (h2 : (t : Int) ≤ hi) : t ∈ ztl lo hi := by
  unfold ztl
  exact List.mem_map.mpr ⟨t - lo.toNat, List.mem_range.mpr (by omega), by omega⟩
noncomputable def zml (me : List zMe) (r b : Nat) (off : Int) : Option Nat := (me.find? (fun m => m.1 == r && (m.2.1 == b && m.2.2.1 == off))).map (fun m => m.2.2.2)
theorem zml_ok {me : List zMe} {r b v : Nat} {off : Int} (h : zml me r b off = some v) : (r, b, off, v) ∈ me := by
  unfold zml at h
  cases hf : me.find? (fun m => m.1 == r && (m.2.1 == b && m.2.2.1 == off)) with
  | none => rw [hf] at h; cases h
  | some m =>
    rw [hf] at h
    cases h
    have h1 := List.find?_some hf
    simp only [Bool.and_eq_true, beq_iff_eq] at h1
    obtain ⟨rfl, rfl, rfl⟩ := h1
    exact List.mem_of_find?_eq_some hf
theorem zIx.fn {ρ : List Value} {b : Nat} {off : Int} {i j : Nat} (h1 : zIx ρ b off i) (h2 : zIx ρ b off j) : i = j := by
  cases b with
  | zero =>
    have e1 : off = (i : Int) := h1
    have e2 : off = (j : Int) := h2
    omega
  | succ b =>
    obtain ⟨y, a1, a2⟩ := h1
    obtain ⟨z, b1, b2⟩ := h2
    rw [a1] at b1
    cases b1
    omega
/-! shapes -/
theorem zsh0 {T : zTy} {e : zE} (h : z_sh T e) (hk : T.1 = 0) : ∃ fs, e = .inr (T.2.1, fs) ∧ fs.length = T.2.2.1 := by
  unfold z_sh at h
  rw [hk] at h
  obtain ⟨t, n, f | f | f | f | f⟩ | ⟨c, fs⟩ := e
  all_goals first | exact ⟨_, by rw [h.1], h.2⟩ | exact h.elim
theorem zsh1 {T : zTy} {e : zE} (h : z_sh T e) (hk : T.1 = 1) : ∃ f, e = .inl (0, (T.2.2.1, .inl f)) := by
  unfold z_sh at h
  rw [hk] at h
  split at h
  all_goals first | exact ⟨_, by rw [h]⟩ | (exfalso; omega) | exact h.elim
theorem zsh2 {T : zTy} {e : zE} (h : z_sh T e) (hk : T.1 = 2) : ∃ f, e = .inl (1, (T.2.2.1, .inl f)) := by
  unfold z_sh at h
  rw [hk] at h
  split at h
  all_goals first | exact ⟨_, by rw [h]⟩ | (exfalso; omega) | exact h.elim
theorem zsh3 {T : zTy} {e : zE} (h : z_sh T e) (hk : T.1 = 3) : ∃ f, e = .inl (2, (T.2.2.1, .inr (.inl f))) := by
  unfold z_sh at h
  rw [hk] at h
  split at h
  all_goals first | exact ⟨_, by rw [h]⟩ | (exfalso; omega) | exact h.elim
theorem zsh4 {T : zTy} {e : zE} (h : z_sh T e) (hk : T.1 = 4) : ∃ f, e = .inl (3, (T.2.2.1, .inr (.inr (.inr (.inr f))))) := by
  unfold z_sh at h
  rw [hk] at h
  split at h
  all_goals first | exact ⟨_, by rw [h]⟩ | (exfalso; omega) | exact h.elim
theorem zsh_rd {T : zTy} {e : zE} {i : Nat} (h : z_sh T e) (hi : i < T.2.2.1) (hk : T.1 ≤ 4) : ∃ v, z_rd e i = some v := by
  have ht : T.1 = 0 ∨ T.1 = 1 ∨ T.1 = 2 ∨ T.1 = 3 ∨ T.1 = 4 := by omega
  rcases ht with k | k | k | k | k
  · obtain ⟨fs, rfl, hl⟩ := zsh0 h k
    exact ⟨fs[i]'(by omega), List.getElem?_eq_getElem (by omega)⟩
  · obtain ⟨f, rfl⟩ := zsh1 h k
    exact ⟨_, by rw [z_rd0, if_pos hi]⟩
  · obtain ⟨f, rfl⟩ := zsh2 h k
    exact ⟨_, by rw [z_rd1, if_pos hi]⟩
  · obtain ⟨f, rfl⟩ := zsh3 h k
    exact ⟨_, by rw [z_rd2, if_pos hi]⟩
  · obtain ⟨f, rfl⟩ := zsh4 h k
    exact ⟨_, by rw [z_rd3, if_pos hi]⟩
/-! loads -/
noncomputable def zload (tt : Nat → zTy) (kd cl : Nat) (q : zQ) (r b : Nat) (off ilo ihi : Int) (stk : List Nat) : Option zQ :=
  if (zav q.1 r).1 = 2 ∧ 0 ≤ (zav q.1 r).2.1 then (match zall tt kd cl ilo ihi (ztl (zav q.1 r).2.1 (zav q.1 r).2.2) with
    | some a => (match zml q.2.1 r b off with
      | some v => some (q.1, q.2.1, q.2.2.1, v :: stk)
      | none => some (zsn q.1 (a, 0, 0), (r, b, off, zln q.1) :: q.2.1, q.2.2.1, zln q.1 :: stk))
    | none => none) else none
theorem zload_ok {tt : Nat → zTy} {kd cl : Nat} {q q' : zQ} {r b : Nat} {off ilo ihi : Int} {stk : List Nat} {ty : List Nat} {ρ : List Value} {lo : zL} {st : List Value} {h : zH} {vr : Value} {i : Nat} (hkd : kd ≤ 4) (T : zTY tt ty h) (E : zEv ty ρ q.1) (Mm : zMm h ρ q.2.1) (L : zLo ρ q.2.2.1 lo) (S : zSk ρ stk st) (hr : ρ[r]? = some vr) (hx : zIx ρ b off i) (h1 : ilo ≤ (i : Int)) (h2 : (i : Int) ≤ ihi) (hq : zload tt kd cl q r b off ilo ihi stk = some q') :
    ∃ (a t : Nat) (e : zE) (v : Value) (ρ' : List Value), vr = .ref a ∧ ty[a]? = some t ∧ h[a]? = some e ∧ z_sh (tt t) e ∧ (tt t).1 = kd ∧ (kd ≠ 0 ∨ (tt t).2.1 = cl) ∧ i < (tt t).2.2.1 ∧ z_rd e i = some v ∧ zRx ρ ρ' ∧ zEv ty ρ' q'.1 ∧ zMm h ρ' q'.2.1 ∧ zLo ρ' q'.2.2.1 lo ∧ zSk ρ' q'.2.2.2 (v :: st) := by
  unfold zload at hq
  split at hq
  case isFalse => cases hq
  next hc =>
  split at hq
  case h_2 => cases hq
  next a9 ha9 =>
  obtain ⟨a, t, rfl, ht, t1, t2⟩ := zG2 (E.at hr) hc.1
  obtain ⟨a8, hz, hle⟩ := zall_ok ha9 t (ztl_mem hc.2 t1 t2)
  unfold zone at hz
  split at hz
  case isFalse => cases hz
  next hz2 =>
  have hl : a < h.length := by rw [← T.1]; exact (List.getElem?_eq_some_iff.mp ht).1
  have he : h[a]? = some h[a] := List.getElem?_eq_getElem hl
  obtain ⟨sh, vals⟩ := T.2.2 a t h[a] ht he
  have hin : i < (tt t).2.2.1 := by have := hz2.2.2.2; omega
  obtain ⟨v, hv⟩ := zsh_rd (i := i) sh hin (by rw [hz2.1]; exact hkd)
  obtain ⟨rg, m1, m2, m3, m4⟩ := zrg_ok _ _ _ _ hz (i : Int) h1 h2
  have gv : zG ty a9 v := hle ty v (m4 ty v (vals i v hv rg m1 m2 m3))
  split at hq
  · next w hw =>
    cases hq
    obtain ⟨a7, e7, i7, v7, k1, k2, k3, k4, k5⟩ := Mm _ (zml_ok hw)
    dsimp only at k1 k3 k5
    rw [hr] at k1
    cases k1
    have := hx.fn k3
    subst this
    rw [he] at k2
    cases k2
    rw [hv] at k4
    cases k4
    exact ⟨a, t, h[a], v, ρ, rfl, ht, he, sh, hz2.1, hz2.2.1, hin, hv, zRx.rf, E, Mm, L, k5, S⟩
  · rw [zsn_eq, zln_eq] at hq
    cases hq
    refine ⟨a, t, h[a], v, ρ ++ [v], rfl, ht, he, sh, hz2.1, hz2.2.1, hin, hv, zRx.app, E.push0 gv, ?_, L.mono zRx.app, E.new v, S.mono zRx.app⟩
    intro m hm
    rcases List.mem_cons.mp hm with rfl | hm
    · exact ⟨a, h[a], i, v, zRx.app _ _ hr, he, hx.mono zRx.app, hv, E.new v⟩
    · exact Mm.mono zRx.app m hm
noncomputable def zq_get : zQop := fun tt _ _ a b _ q => match q.2.2.2 with
  | r :: stk => zload tt 0 a q r 0 (b : Int) (b : Int) (b : Int) stk
  | _ => none
theorem zSd_get : zSd zo_get zq_get := by
  intro tt sx dq d ms a b c k ty ρ q q' lo st h hd T E Mm L S hq
  unfold zq_get at hq
  split at hq
  case h_2 => cases hq
  next r stk hs =>
  rw [hs] at S
  match st, S with
  | vr :: st, S =>
  obtain ⟨ad, t, e, v, ρ', rfl, ht, he, sh, k0, kc, hin, hv, r1, r2, r3, r4, r5⟩ := zload_ok (by decide) T E Mm L S.2 S.1 (b := 0) (i := b) rfl (Int.le_refl _) (Int.le_refl _) hq
  obtain ⟨fs, rfl, hl⟩ := zsh0 sh k0
  have hcl : (tt t).2.1 = a := kc.resolve_left (fun h => h rfl)
  refine ⟨ρ', lo, v :: st, h, ?_, r1, T, r2, r3, r4, r5, zFm.rf⟩
  unfold zo_get
  dsimp only
  rw [he]
  dsimp only
  rw [if_pos hcl, show fs[b]? = some v from hv]
/-- an index: where it comes from -/
noncomputable def zcn (env : List zEn) (i : Nat) : Nat × Int := match zlku env i with
  | some e => if e.1.2.1 = e.1.2.2 then (0, e.1.2.1) else if e.2.1 ≠ 0 then (e.2.1, e.2.2) else (i + 1, 0)
  | none => (i + 1, 0)
theorem zcn_ok {ty : List Nat} {ρ : List Value} {env : List zEn} {i n : Nat} {x : Int32} (E : zEv ty ρ env) (hx : ρ[i]? = some (.int x)) (h0 : (zav env i).1 = 0) (hn : (n : Int) = x.toInt) : zIx ρ (zcn env i).1 (zcn env i).2 n := by
  obtain ⟨e, he, hz⟩ := E.ex hx
  obtain ⟨g1, g2⟩ := E.2 i e _ he hx
  unfold zcn
  rw [zlku_eq, he]
  dsimp only
  by_cases h1 : e.1.2.1 = e.1.2.2
  · rw [if_pos h1]
    rw [hz] at h0
    obtain ⟨x9, hx9, l1, l2⟩ := zG0 g1 h0
    cases hx9
    show e.1.2.1 = (n : Int)
    omega
  · rw [if_neg h1]
    by_cases h2 : e.2.1 ≠ 0
    · rw [if_pos h2]
      obtain ⟨b, hb⟩ : ∃ b, e.2.1 = b + 1 := ⟨e.2.1 - 1, by omega⟩
      obtain ⟨x9, y, q1, q2, q3⟩ := g2 b hb
      cases q1
      dsimp only
      rw [hb]
      exact ⟨y, q2, by omega⟩
    · rw [if_neg h2]
      exact ⟨x, hx, by omega⟩
noncomputable def zq_ald (kd : Nat) : zQop := fun tt _ _ _ _ _ q => match q.2.2.2 with
  | j :: r :: stk => if (zav q.1 j).1 = 0 ∧ 0 ≤ (zav q.1 j).2.1 then zload tt kd 0 q r (zcn q.1 j).1 (zcn q.1 j).2 (zav q.1 j).2.1 (zav q.1 j).2.2 stk else none
  | _ => none
theorem zSd_ald {op : zNop} {kd : Nat} (hk : kd ≤ 4) (hk0 : kd ≠ 0) (hop : ∀ (sx : zX) (d a b : Nat) (c : Int) (k : Nat) (lo : zL) (st : List Value) (h : zH) (ad : Nat) (T : zTy) (e : zE) (j : Int32) (v : Value), h[ad]? = some e → z_sh T e → T.1 = kd → z_in j T.2.2.1 = true → j.toNatClampNeg < T.2.2.1 → z_rd e j.toNatClampNeg = some v → op sx d a b c k lo (.int j :: .ref ad :: st) h = zn (k + 1) lo (v :: st) h) : zSd op (zq_ald kd) := by
  intro tt sx dq d ms a b c k ty ρ q q' lo st h hd T E Mm L S hq
  unfold zq_ald at hq
  split at hq
  case h_2 => cases hq
  next ij r stk hs =>
  rw [hs] at S
  match st, S with
  | vj :: vr :: st, S =>
  split at hq
  case isFalse => cases hq
  next hc =>
  obtain ⟨j, rfl, j1, j2⟩ := zG0 (E.at S.1) hc.1
  have hn : (j.toNatClampNeg : Int) = j.toInt := by
    have : j.toNatClampNeg = j.toInt.toNat := rfl
    omega
  obtain ⟨ad, t, e, v, ρ', rfl, ht, he, sh, k0, kc, hin, hv, r1, r2, r3, r4, r5⟩ := zload_ok hk T E Mm L S.2.2 S.2.1 (zcn_ok E S.1 hc.1 hn) (by omega) (by omega) hq
  exact ⟨ρ', lo, v :: st, h, hop sx d a b c k lo st h ad (tt t) e j v he sh k0 (z_inn (by omega) (by omega)).1 hin hv, r1, T, r2, r3, r4, r5, zFm.rf⟩
theorem zSd_iald : zSd zo_iald (zq_ald 1) := zSd_ald (by decide) (by decide) (fun sx d a b c k lo st h ad T e j v he sh k0 hin hl hv => by
  obtain ⟨f, rfl⟩ := zsh1 sh k0
  rw [z_rd0, if_pos hl] at hv
  cases hv
  unfold zo_iald
  dsimp only
  rw [he]
  exact if_pos hin)
theorem zSd_bald : zSd zo_bald (zq_ald 2) := zSd_ald (by decide) (by decide) (fun sx d a b c k lo st h ad T e j v he sh k0 hin hl hv => by
  obtain ⟨f, rfl⟩ := zsh2 sh k0
  rw [z_rd1, if_pos hl] at hv
  cases hv
  unfold zo_bald
  dsimp only
  rw [he]
  exact if_pos hin)
theorem zSd_aald : zSd zo_aald (zq_ald 4) := zSd_ald (by decide) (by decide) (fun sx d a b c k lo st h ad T e j v he sh k0 hin hl hv => by
  obtain ⟨f, rfl⟩ := zsh4 sh k0
  rw [z_rd3, if_pos hl] at hv
  cases hv
  unfold zo_aald
  dsimp only
  rw [he]
  exact if_pos hin)
/-! stores -/
noncomputable def zkp (env : List zEn) (tlo thi ilo ihi : Int) (m : zMe) : Bool :=
  (decide ((zav env m.1).1 = 2) && (decide ((zav env m.1).2.2 < tlo) || decide (thi < (zav env m.1).2.1))) ||
  (if m.2.1 = 0 then decide (m.2.2.1 < ilo) || decide (ihi < m.2.2.1) else decide ((zav env (m.2.1 - 1)).1 = 0) && (decide ((zav env (m.2.1 - 1)).2.2 + m.2.2.1 < ilo) || decide (ihi < (zav env (m.2.1 - 1)).2.1 + m.2.2.1)))
/-- an entry that is kept: another cell, or another place -/
theorem zkp_ok {ty : List Nat} {ρ : List Value} {env : List zEn} {tlo thi ilo ihi : Int} {m : zMe} (E : zEv ty ρ env) (hk : zkp env tlo thi ilo ihi m = true) {a i : Nat} (hr : ρ[m.1]? = some (.ref a)) (hx : zIx ρ m.2.1 m.2.2.1 i) : (∀ t, ty[a]? = some t → ¬ (tlo ≤ (t : Int) ∧ (t : Int) ≤ thi)) ∨ ¬ (ilo ≤ (i : Int) ∧ (i : Int) ≤ ihi) := by
  unfold zkp at hk
  rw [Bool.or_eq_true, Bool.and_eq_true, Bool.or_eq_true] at hk
  simp only [decide_eq_true_eq] at hk
  rcases hk with ⟨h1, h2⟩ | h1
  · refine Or.inl (fun t ht hn => ?_)
    obtain ⟨a9, t9, e9, g0, g1, g2⟩ := zG2 (E.at hr) h1
    cases e9
    rw [ht] at g0
    cases g0
    omega
  · refine Or.inr (fun hn => ?_)
    by_cases hb : m.2.1 = 0
    · rw [if_pos hb, Bool.or_eq_true, decide_eq_true_eq, decide_eq_true_eq] at h1
      rw [hb] at hx
      have e : m.2.2.1 = (i : Int) := hx
      omega
    · rw [if_neg hb, Bool.and_eq_true, Bool.or_eq_true, decide_eq_true_eq, decide_eq_true_eq, decide_eq_true_eq] at h1
      obtain ⟨b, hb9⟩ : ∃ b, m.2.1 = b + 1 := ⟨m.2.1 - 1, by omega⟩
      rw [hb9] at hx h1
      obtain ⟨y, y1, y2⟩ := hx
      rw [Nat.add_sub_cancel] at h1
      obtain ⟨y9, e9, g1, g2⟩ := zG0 (E.at y1) h1.1
      cases e9
      omega
theorem zMm.wr {ty : List Nat} {ρ : List Value} {env : List zEn} {me : List zMe} {h : zH} {a t i r b v : Nat} {off tlo thi ilo ihi : Int} {e e' : zE} {w : Value} (E : zEv ty ρ env) (Mm : zMm h ρ me) (ht : ty[a]? = some t) (t1 : tlo ≤ (t : Int)) (t2 : (t : Int) ≤ thi) (i1 : ilo ≤ (i : Int)) (i2 : (i : Int) ≤ ihi) (he : h[a]? = some e) (hr : ∀ j, z_rd e' j = if j = i then some w else z_rd e j) (hR : ρ[r]? = some (.ref a)) (hx : zIx ρ b off i) (hv : ρ[v]? = some w) : zMm (h.set a e') ρ ((r, b, off, v) :: me.filter (zkp env tlo thi ilo ihi)) := by
  have hl := (List.getElem?_eq_some_iff.mp he).1
  intro m hm
  rcases List.mem_cons.mp hm with rfl | hm
  · exact ⟨a, e', i, w, hR, List.getElem?_set_self hl, hx, by rw [hr i, if_pos rfl], hv⟩
  · obtain ⟨hm1, hm2⟩ := List.mem_filter.mp hm
    obtain ⟨a9, e9, i9, v9, k1, k2, k3, k4, k5⟩ := Mm m hm1
    by_cases ha : a9 = a
    · subst ha
      rw [he] at k2
      cases k2
      have hne : i9 ≠ i := fun q => by
        subst q
        rcases zkp_ok E hm2 k1 k3 with z | z
        · exact z t ht ⟨t1, t2⟩
        · exact z ⟨i1, i2⟩
      exact ⟨a9, e', i9, v9, k1, List.getElem?_set_self hl, k3, by rw [hr i9, if_neg hne]; exact k4, k5⟩
    · exact ⟨a9, e9, i9, v9, k1, by rw [List.getElem?_set_ne (fun q => ha q.symm)]; exact k2, k3, k4, k5⟩
noncomputable def zst (rs : List (Int × Int × zA)) (ilo ihi : Int) (a : zA) : Bool := rs.all (fun r => decide (r.2.1 < ilo) || (decide (ihi < r.1) || zLe a r.2.2))
theorem zst_ok {rs : List (Int × Int × zA)} {ilo ihi : Int} {a : zA} (h : zst rs ilo ihi a = true) {ty : List Nat} {v : Value} (g : zG ty a v) {i : Nat} (h1 : ilo ≤ (i : Int)) (h2 : (i : Int) ≤ ihi) : ∀ r ∈ rs, r.1 ≤ (i : Int) → (i : Int) ≤ r.2.1 → zG ty r.2.2 v := by
  intro r hr g1 g2
  have := List.all_eq_true.mp h r hr
  rw [Bool.or_eq_true, Bool.or_eq_true, decide_eq_true_eq, decide_eq_true_eq] at this
  rcases this with h9 | h9 | h9
  · omega
  · omega
  · exact zLe_ok h9 g
noncomputable def zcv (ms : List zMod) (t : Nat) (lo hi : Int) : Bool := ms.any (fun m => decide (m.1 = t) && (decide (m.2.1 ≤ lo) && decide (hi ≤ m.2.2)))
theorem zcv_ok {ms : List zMod} {t : Nat} {lo hi : Int} (h : zcv ms t lo hi = true) {i : Nat} (h1 : lo ≤ (i : Int)) (h2 : (i : Int) ≤ hi) : zIn ms t i := by
  obtain ⟨m, hm, h9⟩ := List.any_eq_true.mp h
  rw [Bool.and_eq_true, Bool.and_eq_true, decide_eq_true_eq, decide_eq_true_eq, decide_eq_true_eq] at h9
  exact ⟨m, hm, h9.1, by omega, by omega⟩
noncomputable def zfit (c : Int) (V : zA) : Bool := (decide (c = 0) && decide (V.1 = 0)) || ((decide (c = 1) && (decide (V.1 = 0) && (decide (0 ≤ V.2.1) && decide (V.2.2 ≤ 1)))) || (decide (c = 2) && (decide (V.1 = 2) || (decide (V.1 = 3) || decide (V.1 = 4)))))
theorem zfit_ok {c : Int} {V : zA} {ty : List Nat} {v : Value} (h : zfit c V = true) (g : zG ty V v) : z_fit c v = true := by
  unfold zfit at h
  simp only [Bool.or_eq_true, Bool.and_eq_true, decide_eq_true_eq] at h
  rcases h with ⟨rfl, h⟩ | ⟨rfl, h, h1, h2⟩ | ⟨rfl, h⟩
  · obtain ⟨x, rfl, -⟩ := zG0 g h; rfl
  · obtain ⟨x, rfl, g1, g2⟩ := zG0 g h
    have hx : x.toInt = 0 ∨ x.toInt = 1 := by omega
    have : x = 0 ∨ x = 1 := hx.imp (fun e => Int32.toInt_inj.mp (by rw [e]; rfl)) (fun e => Int32.toInt_inj.mp (by rw [e]; rfl))
    rcases this with rfl | rfl <;> rfl
  · rcases h with h | h | h
    · obtain ⟨i, t, rfl, -⟩ := zG2 g h; rfl
    · rcases zG3 g h with rfl | ⟨i, t, rfl, -⟩ <;> rfl
    · have := zG4 g h; subst this; rfl
noncomputable def zq_put : zQop := fun tt _ ms a b c q => match q.2.2.2 with
  | v :: r :: stk => if (zav q.1 r).1 = 2 ∧ (zav q.1 r).2.1 = (zav q.1 r).2.2 ∧ 0 ≤ (zav q.1 r).2.1 ∧ (tt (zav q.1 r).2.1.toNat).1 = 0 ∧ (tt (zav q.1 r).2.1.toNat).2.1 = a ∧ b < (tt (zav q.1 r).2.1.toNat).2.2.1 ∧ zfit c (zav q.1 v) = true ∧ zst (tt (zav q.1 r).2.1.toNat).2.2.2 (b : Int) (b : Int) (zav q.1 v) = true ∧ zcv ms (zav q.1 r).2.1.toNat (b : Int) (b : Int) = true
      then some (q.1, (r, 0, (b : Int), v) :: q.2.1.filter (zkp q.1 (zav q.1 r).2.1 (zav q.1 r).2.1 (b : Int) (b : Int)), q.2.2.1, stk) else none
  | _ => none
theorem zSd_put : zSd zo_put zq_put := by
  intro tt sx dq d ms a b c k ty ρ q q' lo st h hd T E Mm L S hq
  unfold zq_put at hq
  split at hq
  case h_2 => cases hq
  next iv r stk hs =>
  rw [hs] at S
  match st, S with
  | vv :: vr :: st, S =>
  split at hq
  case isFalse => cases hq
  next hc =>
  cases hq
  obtain ⟨c1, c2, c3, c4, c5, c6, c7, c8, c9⟩ := hc
  obtain ⟨ad, t, rfl, ht, t1, t2⟩ := zG2 (E.at S.2.1) c1
  have et : (zav q.1 r).2.1.toNat = t := by omega
  rw [et] at c4 c5 c6 c8 c9
  have hl : ad < h.length := by rw [← T.1]; exact (List.getElem?_eq_some_iff.mp ht).1
  have he : h[ad]? = some h[ad] := List.getElem?_eq_getElem hl
  obtain ⟨fs, hfs, hlen⟩ := zsh0 (T.2.2 ad t _ ht he).1 c4
  rw [hfs] at he
  have hrd := fun j => z_rd_obj (c := (tt t).2.1) (fs := fs) (i := b) (v := vv) (by omega) j
  have hgv := E.at S.1
  refine ⟨ρ, lo, st, h.set ad (.inr ((tt t).2.1, fs.set b vv)), ?_, zRx.rf, T.wr ht he ?_ hrd (zst_ok c8 hgv (Int.le_refl _) (Int.le_refl _)), E, zMm.wr E Mm ht t1 (by omega) (Int.le_refl _) (Int.le_refl _) he hrd S.2.1 (b := 0) rfl S.1, L, S.2.2, zFm.wr ht he hrd (zcv_ok c9 (Int.le_refl _) (Int.le_refl _))⟩
  · unfold zo_put
    dsimp only
    rw [he]
    dsimp only
    rw [if_pos ⟨c5, by omega, zfit_ok c7 hgv⟩]
  · unfold z_sh
    rw [c4]
    exact ⟨rfl, by rw [List.length_set]; exact hlen⟩
noncomputable def zq_ast (kd : Nat) (P : zA → Bool) (g : zA → zA) : zQop := fun tt _ ms _ _ _ q => match q.2.2.2 with
  | v :: j :: r :: stk => if (zav q.1 r).1 = 2 ∧ (zav q.1 r).2.1 = (zav q.1 r).2.2 ∧ 0 ≤ (zav q.1 r).2.1 ∧ (tt (zav q.1 r).2.1.toNat).1 = kd ∧ (zav q.1 j).1 = 0 ∧ 0 ≤ (zav q.1 j).2.1 ∧ (zav q.1 j).2.2 < ((tt (zav q.1 r).2.1.toNat).2.2.1 : Int) ∧ P (zav q.1 v) = true ∧ zst (tt (zav q.1 r).2.1.toNat).2.2.2 (zav q.1 j).2.1 (zav q.1 j).2.2 (g (zav q.1 v)) = true ∧ zcv ms (zav q.1 r).2.1.toNat (zav q.1 j).2.1 (zav q.1 j).2.2 = true
      then some (q.1 ++ [(g (zav q.1 v), 0, 0)], (r, (zcn q.1 j).1, (zcn q.1 j).2, q.1.length) :: q.2.1.filter (zkp q.1 (zav q.1 r).2.1 (zav q.1 r).2.1 (zav q.1 j).2.1 (zav q.1 j).2.2), q.2.2.1, stk) else none
  | _ => none
theorem zSd_ast {op : zNop} {kd : Nat} {P : zA → Bool} {g : zA → zA} (hop : ∀ (sx : zX) (d a b : Nat) (c : Int) (k : Nat) (lo : zL) (st : List Value) (h : zH) (ty : List Nat) (ad : Nat) (T : zTy) (e : zE) (j : Int32) (V : zA) (v : Value), h[ad]? = some e → z_sh T e → T.1 = kd → z_in j T.2.2.1 = true → j.toNatClampNeg < T.2.2.1 → zG ty V v → P V = true → ∃ e' v', z_sh T e' ∧ zG ty (g V) v' ∧ (∀ i, z_rd e' i = if i = j.toNatClampNeg then some v' else z_rd e i) ∧ op sx d a b c k lo (v :: .int j :: .ref ad :: st) h = zn (k + 1) lo st (h.set ad e')) : zSd op (zq_ast kd P g) := by
  intro tt sx dq d ms a b c k ty ρ q q' lo st h hd T E Mm L S hq
  unfold zq_ast at hq
  split at hq
  case h_2 => cases hq
  next iv ij r stk hs =>
  rw [hs] at S
  match st, S with
  | vv :: vj :: vr :: st, S =>
  obtain ⟨s1, s2, s3, s4⟩ := S
  split at hq
  case isFalse => cases hq
  next hc =>
  cases hq
  obtain ⟨c1, c2, c3, c4, c5, c6, c7, c8, c9, c10⟩ := hc
  obtain ⟨ad, t, rfl, ht, t1, t2⟩ := zG2 (E.at s3) c1
  obtain ⟨j, rfl, j1, j2⟩ := zG0 (E.at s2) c5
  have et : (zav q.1 r).2.1.toNat = t := by omega
  rw [et] at c4 c7 c9 c10
  have hl : ad < h.length := by rw [← T.1]; exact (List.getElem?_eq_some_iff.mp ht).1
  have he : h[ad]? = some h[ad] := List.getElem?_eq_getElem hl
  have hn : (j.toNatClampNeg : Int) = j.toInt := by
    have : j.toNatClampNeg = j.toInt.toNat := rfl
    omega
  obtain ⟨zi, zl, -⟩ := z_inn (i := j) (n := (tt t).2.2.1) (by omega) (by omega)
  obtain ⟨e', v', sh', gv', hrd, ho⟩ := hop sx d a b c k lo st h ty ad (tt t) h[ad] j _ vv he (T.2.2 ad t _ ht he).1 c4 zi zl (E.at s1) c8
  have E' := E.push0 gv'
  have hw : zMm (h.set ad e') (ρ ++ [v']) ((r, (zcn q.1 ij).1, (zcn q.1 ij).2, q.1.length) :: q.2.1.filter (zkp q.1 (zav q.1 r).2.1 (zav q.1 r).2.1 (zav q.1 ij).2.1 (zav q.1 ij).2.2)) := by
    intro m hm
    rcases List.mem_cons.mp hm with rfl | hm
    · exact ⟨ad, e', j.toNatClampNeg, v', zRx.app _ _ s3, List.getElem?_set_self hl, (zcn_ok E s2 c5 hn).mono zRx.app, by rw [hrd _, if_pos rfl], E.new v'⟩
    · obtain ⟨hm1, hm2⟩ := List.mem_filter.mp hm
      obtain ⟨a9, e9, i9, v9, k1, k2, k3, k4, k5⟩ := Mm m hm1
      by_cases ha : a9 = ad
      · subst ha
        rw [he] at k2
        cases k2
        have hne : i9 ≠ j.toNatClampNeg := fun z => by
          rcases zkp_ok E hm2 k1 k3 with z9 | z9
          · exact z9 t ht ⟨t1, by omega⟩
          · exact z9 ⟨by omega, by omega⟩
        exact ⟨a9, e', i9, v9, zRx.app _ _ k1, List.getElem?_set_self hl, k3.mono zRx.app, by rw [hrd i9, if_neg hne]; exact k4, zRx.app _ _ k5⟩
      · exact ⟨a9, e9, i9, v9, zRx.app _ _ k1, by rw [List.getElem?_set_ne (fun z => ha z.symm)]; exact k2, k3.mono zRx.app, k4, zRx.app _ _ k5⟩
  exact ⟨ρ ++ [v'], lo, st, h.set ad e', ho, zRx.app, T.wr ht he sh' hrd (zst_ok c9 gv' (by omega) (by omega)), E', hw, L.mono zRx.app, s4.mono zRx.app, zFm.wr ht he hrd (zcv_ok c10 (by omega) (by omega))⟩
theorem zSd_iast : zSd zo_iast (zq_ast 1 zisI id) := zSd_ast (fun sx d a b c k lo st h ty ad T e j V v he sh k0 hin hl g hP => by
  obtain ⟨x, rfl, x1, x2⟩ := zG0 g (of_decide_eq_true hP)
  obtain ⟨f, rfl⟩ := zsh1 sh k0
  refine ⟨_, .int x, ?_, g, fun i => z_rd_int hl i, ?_⟩
  · unfold z_sh
    rw [k0]
    exact rfl
  · unfold zo_iast
    dsimp only
    rw [he]
    exact if_pos hin)
theorem zSd_bast : zSd zo_bast (zq_ast 2 zisI (fun _ => zFull)) := zSd_ast (fun sx d a b c k lo st h ty ad T e j V v he sh k0 hin hl g hP => by
  obtain ⟨x, rfl, x1, x2⟩ := zG0 g (of_decide_eq_true hP)
  obtain ⟨f, rfl⟩ := zsh2 sh k0
  refine ⟨_, .int (vp_nar .byte x), ?_, zFull_ok _, fun i => z_rd_byte hl i, ?_⟩
  · unfold z_sh
    rw [k0]
    exact rfl
  · unfold zo_bast
    dsimp only
    rw [he]
    exact if_pos hin)
theorem zSd_last : zSd zo_last (zq_ast 3 zisJ id) := zSd_ast (fun sx d a b c k lo st h ty ad T e j V v he sh k0 hin hl g hP => by
  obtain ⟨x, rfl, x1, x2⟩ := zG1 g (of_decide_eq_true hP)
  obtain ⟨f, rfl⟩ := zsh3 sh k0
  refine ⟨_, .long x, ?_, g, fun i => z_rd_long hl i, ?_⟩
  · unfold z_sh
    rw [k0]
    exact rfl
  · unfold zo_last
    dsimp only
    rw [he]
    exact if_pos hin)
end
section
/-! lengths, texts, min and max, whole copies -/
noncomputable def zq_alen : zQop := fun tt _ _ _ _ _ q => match q.2.2.2 with
  | r :: stk => if (zav q.1 r).1 = 2 ∧ (zav q.1 r).2.1 = (zav q.1 r).2.2 ∧ 0 ≤ (zav q.1 r).2.1 ∧ 1 ≤ (tt (zav q.1 r).2.1.toNat).1 ∧ (tt (zav q.1 r).2.1.toNat).1 ≤ 4 ∧ ((tt (zav q.1 r).2.1.toNat).2.2.1 : Int) ≤ zMx
      then some (zPu q stk ((0, ((tt (zav q.1 r).2.1.toNat).2.2.1 : Int), ((tt (zav q.1 r).2.1.toNat).2.2.1 : Int)), 0, 0)) else none
  | _ => none
theorem zof_nat {n : Nat} (h : (n : Int) ≤ zMx) : (Int32.ofNat n).toInt = (n : Int) := Int32.toInt_ofNat_of_lt (by have e2 : zMx = 2147483647 := rfl; omega)
theorem zSd_alen : zSd zo_alen zq_alen := by
  intro tt sx dq d ms a b c k ty ρ q q' lo st h hd T E Mm L S hq
  unfold zq_alen at hq
  split at hq
  case h_2 => cases hq
  next r stk hs =>
  rw [hs] at S
  match st, S with
  | vr :: st, S =>
  split at hq
  case isFalse => cases hq
  next hc =>
  cases hq
  obtain ⟨c1, c2, c3, c4, c5, c6⟩ := hc
  obtain ⟨ad, t, rfl, ht, t1, t2⟩ := zG2 (E.at S.1) c1
  have et : (zav q.1 r).2.1.toNat = t := by omega
  rw [et] at c4 c5 c6 ⊢
  have hl : ad < h.length := by rw [← T.1]; exact (List.getElem?_eq_some_iff.mp ht).1
  have he : h[ad]? = some h[ad] := List.getElem?_eq_getElem hl
  have sh := (T.2.2 ad t _ ht he).1
  have hn := zof_nat c6
  obtain ⟨r1, r2, r3, r4, r5⟩ := zPu0 (v := .int (Int32.ofNat (tt t).2.2.1)) (q := q) (stk := stk) E Mm L S.2 (a := (0, ((tt t).2.2.1 : Int), ((tt t).2.2.1 : Int))) ⟨_, rfl, by rw [hn]; exact Int.le_refl _, by rw [hn]; exact Int.le_refl _⟩
  refine ⟨_, lo, _, h, ?_, r1, T, r2, r3, r4, r5, zFm.rf⟩
  have hk : (tt t).1 = 1 ∨ (tt t).1 = 2 ∨ (tt t).1 = 3 ∨ (tt t).1 = 4 := by omega
  unfold zo_alen
  dsimp only
  rw [he]
  rcases hk with k0 | k0 | k0 | k0
  · obtain ⟨f, e9⟩ := zsh1 sh k0; rw [e9]; rfl
  · obtain ⟨f, e9⟩ := zsh2 sh k0; rw [e9]; rfl
  · obtain ⟨f, e9⟩ := zsh3 sh k0; rw [e9]; rfl
  · obtain ⟨f, e9⟩ := zsh4 sh k0; rw [e9]; rfl
theorem zadd_sub (b k : Nat) : b ≤ b + k ∧ b + k - b = k := ⟨Nat.le_add_right _ _, Nat.add_sub_cancel_left _ _⟩
theorem zG5i {ty : List Nat} {a : zA} {v : Value} (g : zG ty a v) (h : a.1 = 5) : ∃ i : Nat, v = .ref i ∧ zB ≤ i ∧ i - zB = a.2.1.toNat := ⟨_, zG5 g h, (zadd_sub zB _).1, (zadd_sub zB _).2⟩
theorem zo_slength_at {sx : zX} {d a b : Nat} {c : Int} {k : Nat} {lo : zL} {st st0 : List Value} {h : zH} {i : Nat} {w : String × Nat × String × List Int32} (hc : zB ≤ i ∧ 6 ≤ d ∧ z_cat st ≤ 8) (hw : z_strs[i - zB]? = some w) (e : st0 = .ref i :: st) : zo_slength sx d a b c k lo st0 h = zn (k + 1) lo (.int (Int32.ofNat w.2.2.2.length) :: st) h := by
  unfold zo_slength
  split
  · next i9 st9 =>
    cases e
    rw [if_pos hc]
    split
    · next q hq => rw [hw] at hq; cases hq; rfl
    · next hq => rw [hw] at hq; cases hq
  · next hne => exact absurd e (hne i st)
theorem zo_scharAt_at {sx : zX} {d a b : Nat} {c : Int} {k : Nat} {lo : zL} {st st0 : List Value} {h : zH} {i : Nat} {j : Int32} {w : String × Nat × String × List Int32} (hc : zB ≤ i ∧ 6 ≤ d ∧ z_cat st ≤ 8) (hw : z_strs[i - zB]? = some w) (hj : z_in j w.2.2.2.length = true) (e : st0 = .int j :: .ref i :: st) : zo_scharAt sx d a b c k lo st0 h = zn (k + 1) lo (.int ((w.2.2.2.getD j.toNatClampNeg 0) &&& 255) :: st) h := by
  unfold zo_scharAt
  split
  · next j9 i9 st9 =>
    cases e
    rw [if_pos hc]
    split
    · next q hq => rw [hw] at hq; cases hq; exact if_pos hj
    · next hq => rw [hw] at hq; cases hq
  · next hne => exact absurd e (hne j i st)
noncomputable def zq_slength : zQop := fun _ dq _ _ _ _ q => match q.2.2.2 with
  | r :: stk => if (zav q.1 r).1 = 5 ∧ 6 ≤ dq ∧ zct q.1 stk ≤ 8 then (match z_strs[(zav q.1 r).2.1.toNat]? with
      | some w => if (w.2.2.2.length : Int) ≤ zMx then some (zPu q stk ((0, (w.2.2.2.length : Int), (w.2.2.2.length : Int)), 0, 0)) else none
      | none => none) else none
  | _ => none
theorem zSd_slength : zSd zo_slength zq_slength := by
  intro tt sx dq d ms a b c k ty ρ q q' lo st h hd T E Mm L S hq
  unfold zq_slength at hq
  split at hq
  case h_2 => cases hq
  next r stk hs =>
  rw [hs] at S
  match st, S with
  | vr :: st, S =>
  split at hq
  case isFalse => cases hq
  next hc =>
  split at hq
  case h_2 => cases hq
  next w hw =>
  split at hq
  case isFalse => cases hq
  next hl =>
  cases hq
  obtain ⟨i, rfl, b1, b2⟩ := zG5i (E.at S.1) hc.1
  have hn := zof_nat hl
  obtain ⟨r1, r2, r3, r4, r5⟩ := zPu0 (v := .int (Int32.ofNat w.2.2.2.length)) (q := q) (stk := stk) E Mm L S.2 (a := (0, (w.2.2.2.length : Int), (w.2.2.2.length : Int))) ⟨_, rfl, by rw [hn]; exact Int.le_refl _, by rw [hn]; exact Int.le_refl _⟩
  refine ⟨_, lo, _, h, ?_, r1, T, r2, r3, r4, r5, zFm.rf⟩
  rw [← b2] at hw
  exact zo_slength_at ⟨b1, Nat.le_trans hc.2.1 hd, by rw [zct_ok E S.2]; exact hc.2.2⟩ hw rfl
noncomputable def zq_scharAt : zQop := fun _ dq _ _ _ _ q => match q.2.2.2 with
  | j :: r :: stk => if (zav q.1 r).1 = 5 ∧ 6 ≤ dq ∧ zct q.1 stk ≤ 8 ∧ (zav q.1 j).1 = 0 ∧ 0 ≤ (zav q.1 j).2.1 then (match z_strs[(zav q.1 r).2.1.toNat]? with
      | some w => if (zav q.1 j).2.2 < (w.2.2.2.length : Int) then some (zPu q stk (zFull, 0, 0)) else none
      | none => none) else none
  | _ => none
theorem zSd_scharAt : zSd zo_scharAt zq_scharAt := by
  intro tt sx dq d ms a b c k ty ρ q q' lo st h hd T E Mm L S hq
  unfold zq_scharAt at hq
  split at hq
  case h_2 => cases hq
  next ij r stk hs =>
  rw [hs] at S
  match st, S with
  | vj :: vr :: st, S =>
  split at hq
  case isFalse => cases hq
  next hc =>
  split at hq
  case h_2 => cases hq
  next w hw =>
  split at hq
  case isFalse => cases hq
  next hl =>
  cases hq
  obtain ⟨i, rfl, b1, b2⟩ := zG5i (E.at S.2.1) hc.1
  obtain ⟨j, rfl, j1, j2⟩ := zG0 (E.at S.1) hc.2.2.2.1
  have zi := (z_inn (i := j) (n := w.2.2.2.length) (by omega) (by omega)).1
  obtain ⟨r1, r2, r3, r4, r5⟩ := zPu0 (v := .int ((w.2.2.2.getD j.toNatClampNeg 0) &&& 255)) (q := q) (stk := stk) E Mm L S.2.2 (a := zFull) (zFull_ok _)
  refine ⟨_, lo, _, h, ?_, r1, T, r2, r3, r4, r5, zFm.rf⟩
  rw [← b2] at hw
  exact zo_scharAt_at ⟨b1, Nat.le_trans hc.2.1 hd, by rw [zct_ok E S.2.2]; exact hc.2.2.1⟩ hw zi rfl
noncomputable def zq_mm (f : Int → Int → Int) : zQop := fun _ dq _ _ _ _ q => match q.2.2.2 with
  | y :: x :: stk => if (zav q.1 x).1 = 0 ∧ (zav q.1 y).1 = 0 ∧ 6 ≤ dq ∧ zct q.1 stk ≤ 8 then some (zPu q stk ((0, f (zav q.1 x).2.1 (zav q.1 y).2.1, f (zav q.1 x).2.2 (zav q.1 y).2.2), 0, 0)) else none
  | _ => none
theorem zSd_mm {op : zNop} {f : Int → Int → Int} {g : Int32 → Int32 → Int32} (hg : ∀ (x y : Int32) (a b c d : Int), a ≤ x.toInt → x.toInt ≤ b → c ≤ y.toInt → y.toInt ≤ d → f a c ≤ (g x y).toInt ∧ (g x y).toInt ≤ f b d) (hop : ∀ (sx : zX) (d a b : Nat) (c : Int) (k : Nat) (lo : zL) (x y : Int32) (st : List Value) (h : zH), 6 ≤ d → z_cat st ≤ 8 → op sx d a b c k lo (.int y :: .int x :: st) h = zn (k + 1) lo (.int (g x y) :: st) h) : zSd op (zq_mm f) := by
  intro tt sx dq d ms a b c k ty ρ q q' lo st h hd T E Mm L S hq
  unfold zq_mm at hq
  split at hq
  case h_2 => cases hq
  next iy ix stk hs =>
  rw [hs] at S
  match st, S with
  | vy :: vx :: st, S =>
  split at hq
  case isFalse => cases hq
  next hc =>
  cases hq
  obtain ⟨x, rfl, x1, x2⟩ := zG0 (E.at S.2.1) hc.1
  obtain ⟨y, rfl, y1, y2⟩ := zG0 (E.at S.1) hc.2.1
  obtain ⟨g1, g2⟩ := hg x y _ _ _ _ x1 x2 y1 y2
  obtain ⟨r1, r2, r3, r4, r5⟩ := zPu0 (v := .int (g x y)) (q := q) (stk := stk) E Mm L S.2.2 (a := (0, f (zav q.1 ix).2.1 (zav q.1 iy).2.1, f (zav q.1 ix).2.2 (zav q.1 iy).2.2)) ⟨_, rfl, g1, g2⟩
  exact ⟨_, lo, _, h, hop sx d a b c k lo x y st h (by omega) (by rw [zct_ok E S.2.2]; exact hc.2.2.2), r1, T, r2, r3, r4, r5, zFm.rf⟩
theorem zSd_min : zSd zo_min (zq_mm min) := zSd_mm (g := fun x y => if y < x then y else x) (fun x y a b c d h1 h2 h3 h4 => by
  by_cases h : y < x
  · rw [if_pos h]
    rw [Int32.lt_iff_toInt_lt] at h
    omega
  · rw [if_neg h]
    rw [Int32.lt_iff_toInt_lt] at h
    omega) (fun sx d a b c k lo x y st h hd hc => by unfold zo_min; exact if_pos ⟨hd, hc⟩)
theorem zSd_max : zSd zo_max (zq_mm max) := zSd_mm (g := fun x y => if x < y then y else x) (fun x y a b c d h1 h2 h3 h4 => by
  by_cases h : x < y
  · rw [if_pos h]
    rw [Int32.lt_iff_toInt_lt] at h
    omega
  · rw [if_neg h]
    rw [Int32.lt_iff_toInt_lt] at h
    omega) (fun sx d a b c k lo x y st h hd hc => by unfold zo_max; exact if_pos ⟨hd, hc⟩)
/-- a row copied into a row: both of one region -/
noncomputable def zq_acopy : zQop := fun tt dq ms _ _ _ q => match q.2.2.2 with
  | n :: dp :: r1 :: sp :: r0 :: stk =>
    if (zav q.1 r1).1 = 2 ∧ (zav q.1 r1).2.1 = (zav q.1 r1).2.2 ∧ 0 ≤ (zav q.1 r1).2.1 ∧ (zav q.1 r0).1 = 2 ∧ (zav q.1 r0).2.1 = (zav q.1 r0).2.2 ∧ 0 ≤ (zav q.1 r0).2.1 ∧ (zav q.1 n).1 = 0 ∧ (zav q.1 dp).1 = 0 ∧ (zav q.1 sp).1 = 0 ∧ 0 ≤ (zav q.1 n).2.1 ∧ 0 ≤ (zav q.1 dp).2.1 ∧ 0 ≤ (zav q.1 sp).2.1 ∧ (tt (zav q.1 r0).2.1.toNat).1 = 1 ∧ (tt (zav q.1 r1).2.1.toNat).1 = 1 ∧
      (zav q.1 sp).2.2 + (zav q.1 n).2.2 ≤ ((tt (zav q.1 r0).2.1.toNat).2.2.1 : Int) ∧ (zav q.1 dp).2.2 + (zav q.1 n).2.2 ≤ ((tt (zav q.1 r1).2.1.toNat).2.2.1 : Int) ∧ 6 ≤ dq ∧ zct q.1 stk ≤ 8 ∧ zcv ms (zav q.1 r1).2.1.toNat 0 (((tt (zav q.1 r1).2.1.toNat).2.2.1 : Int) - 1) = true
    then (match (tt (zav q.1 r0).2.1.toNat).2.2.2 with
      | [ra] => if ra.1 ≤ 0 ∧ ((tt (zav q.1 r0).2.1.toNat).2.2.1 : Int) ≤ ra.2.1 + 1 ∧ (tt (zav q.1 r1).2.1.toNat).2.2.2.all (fun rb => zLe ra.2.2 rb.2.2) = true then some (q.1, q.2.1.filter (zkp q.1 (zav q.1 r1).2.1 (zav q.1 r1).2.1 0 ((tt (zav q.1 r1).2.1.toNat).2.2.1 : Int)), q.2.2.1, stk) else none
      | _ => none) else none
  | _ => none
theorem zclamp {x : Int32} (h : 0 ≤ x.toInt) : (x.toNatClampNeg : Int) = x.toInt ∧ ¬ x < 0 := by
  have e : x.toNatClampNeg = x.toInt.toNat := rfl
  refine ⟨by omega, ?_⟩
  rw [Int32.lt_iff_toInt_lt]
  show ¬ x.toInt < (0 : Int32).toInt
  rw [show (0 : Int32).toInt = 0 from rfl]
  omega
theorem zSd_acopy : zSd zo_acopy zq_acopy := by
  intro tt sx dq d ms a b c k ty ρ q q' lo st h hd T E Mm L S hq
  unfold zq_acopy at hq
  split at hq
  case h_2 => cases hq
  next xn xdp x1 xsp x0 stk hs =>
  rw [hs] at S
  match st, S with
  | vn :: vdp :: v1 :: vsp :: v0 :: st, S =>
  obtain ⟨s1, s2, s3, s4, s5, s6⟩ := S
  split at hq
  case isFalse => cases hq
  next hc =>
  obtain ⟨c1, c2, c3, c4, c5, c6, c7, c8, c9, c10, c11, c12, c13, c14, c15, c16, c17, c18, c19⟩ := hc
  split at hq
  case h_2 => cases hq
  next ra hra =>
  split at hq
  case isFalse => cases hq
  next hcc =>
  cases hq
  obtain ⟨a1, t1, rfl, ht1, t11, t12⟩ := zG2 (E.at s3) c1
  obtain ⟨a0, t0, rfl, ht0, t01, t02⟩ := zG2 (E.at s5) c4
  obtain ⟨n, rfl, n1, n2⟩ := zG0 (E.at s1) c7
  obtain ⟨dp, rfl, dp1, dp2⟩ := zG0 (E.at s2) c8
  obtain ⟨sp, rfl, sp1, sp2⟩ := zG0 (E.at s4) c9
  have e1 : (zav q.1 x1).2.1.toNat = t1 := by omega
  have e0 : (zav q.1 x0).2.1.toNat = t0 := by omega
  rw [e0] at c13 c15 hra hcc
  rw [e1] at c14 c16 c19 hcc
  have hl1 : a1 < h.length := by rw [← T.1]; exact (List.getElem?_eq_some_iff.mp ht1).1
  have hl0 : a0 < h.length := by rw [← T.1]; exact (List.getElem?_eq_some_iff.mp ht0).1
  have he1 : h[a1]? = some h[a1] := List.getElem?_eq_getElem hl1
  have he0 : h[a0]? = some h[a0] := List.getElem?_eq_getElem hl0
  obtain ⟨g, hg⟩ := zsh1 (T.2.2 a1 t1 _ ht1 he1).1 c14
  obtain ⟨f, hf⟩ := zsh1 (T.2.2 a0 t0 _ ht0 he0).1 c13
  have hval := (T.2.2 a0 t0 _ ht0 he0).2
  have hval1 := (T.2.2 a1 t1 _ ht1 he1).2
  rw [hg] at he1 hval1
  rw [hf] at he0 hval
  obtain ⟨kn, kn2⟩ := zclamp (x := n) (by omega)
  obtain ⟨kd, kd2⟩ := zclamp (x := dp) (by omega)
  obtain ⟨ks, ks2⟩ := zclamp (x := sp) (by omega)
  refine ⟨ρ, lo, st, h.set a1 (.inl (0, ((tt t1).2.2.1, .inl (va_cpy f g sp.toNatClampNeg dp.toNatClampNeg n.toNatClampNeg)))), ?_, zRx.rf, ?_, E, ?_, L, s6, ?_⟩
  · unfold zo_acopy
    dsimp only
    rw [he0, he1]
    exact if_pos ⟨by omega, by rw [zct_ok E s6]; exact c18, ks2, kd2, kn2, by omega, by omega⟩
  · refine ⟨by rw [List.length_set]; exact T.1, by rw [List.length_set]; exact T.2.1, fun b s e hs1 he => ?_⟩
    by_cases hb : b = a1
    · subst hb
      rw [List.getElem?_set_self hl1] at he
      cases he
      rw [ht1] at hs1
      cases hs1
      refine ⟨by unfold z_sh; rw [c14]; exact rfl, fun i v hv r hr g1 g2 => ?_⟩
      rw [z_rd0] at hv
      split at hv
      case isFalse => cases hv
      next hi =>
      cases hv
      unfold va_cpy
      by_cases hcp : dp.toNatClampNeg ≤ i ∧ i < dp.toNatClampNeg + n.toNatClampNeg
      · rw [if_pos hcp]
        have hz := hval (sp.toNatClampNeg + (i - dp.toNatClampNeg)) (.int (f (sp.toNatClampNeg + (i - dp.toNatClampNeg)))) (by rw [z_rd0, if_pos (by omega)]) ra (by rw [hra]; exact List.mem_singleton.mpr rfl) (by omega) (by omega)
        exact zLe_ok (List.all_eq_true.mp hcc.2.2 r hr) hz
      · rw [if_neg hcp]
        exact hval1 i (.int (g i)) (by rw [z_rd0, if_pos hi]) r hr g1 g2
    · rw [List.getElem?_set_ne (fun z => hb z.symm)] at he
      exact T.2.2 b s e hs1 he
  · intro m hm
    obtain ⟨hm1, hm2⟩ := List.mem_filter.mp hm
    obtain ⟨a9, e9, i9, v9, k1, k2, k3, k4, k5⟩ := Mm m hm1
    rcases zkp_ok E hm2 k1 k3 with z9 | z9
    · have ha : a9 ≠ a1 := fun z => by subst z; exact z9 t1 ht1 ⟨t11, by omega⟩
      exact ⟨a9, e9, i9, v9, k1, by rw [List.getElem?_set_ne (fun z => ha z.symm)]; exact k2, k3, k4, k5⟩
    · by_cases ha : a9 = a1
      · subst ha
        rw [he1] at k2
        cases k2
        rw [z_rd0] at k4
        split at k4
        · exact absurd ⟨by omega, by rw [e1]; omega⟩ z9
        · cases k4
      · exact ⟨a9, e9, i9, v9, k1, by rw [List.getElem?_set_ne (fun z => ha z.symm)]; exact k2, k3, k4, k5⟩
  · refine ⟨by rw [List.length_set]; exact Nat.le_refl _, fun b s e e' hs1 he he' i hi => ?_⟩
    by_cases hb : b = a1
    · subst hb
      rw [List.getElem?_set_self hl1] at he'
      cases he'
      rw [he1] at he
      cases he
      rw [ht1] at hs1
      cases hs1
      rw [z_rd0, z_rd0]
      by_cases hin : i < (tt t1).2.2.1
      · exact absurd (zcv_ok c19 (by omega) (by omega)) hi
      · rw [if_neg hin, if_neg hin]
    · rw [List.getElem?_set_ne (fun z => hb z.symm), he] at he'
      cases he'
      rfl
/-! all of them by their numbers -/
noncomputable def zqs : List zQop := [zq_const, zq_load zisI, zq_load zisR, zq_load zisJ, zq_sto1 zisI, zq_sto1 zisR, zq_lstore, zq_iinc, zq_bin 8, zq_bin 9, zq_bin 10, zq_bin 11, zq_bin 12, zq_bin 13, zq_bin 14, zq_bin 15, zq_bin 16, zq_bin 17, zq_bin 18, zq_un zf_i2l, zq_un zf_l2i, zq_un zf_i2b, zq_bi zf_ladd, zq_bi zf_lmul, zq_bi zf_ldiv, zq_lconst, zq_bi zf_lcmp, zq_dup, zq_dup2, zq_pop, zq_no, zq_no, zq_no, zq_no, zq_no, zq_no, zq_no, zq_get, zq_put, zq_ald 1, zq_ast 1 zisI id, zq_ald 2, zq_ast 2 zisI (fun _ => zFull), zq_ast 3 zisJ id, zq_ald 4, zq_no, zq_alen, zq_no, zq_no, zq_no, zq_no, zq_no, zq_no, zq_no, zq_no, zq_no, zq_no, zq_no, zq_ldcs, zq_slength, zq_scharAt, zq_acopy, zq_no, zq_null, zq_no, zq_no, zq_no, zq_mm min, zq_mm max]
theorem zSd_all : ∀ o, zSd (z_ops.getD o z_no) (zqs.getD o zq_no)
  | 0 => zSd_const | 1 => zSd_iload | 2 => zSd_aload | 3 => zSd_lload | 4 => zSd_istore | 5 => zSd_astore | 6 => zSd_lstore | 7 => zSd_iinc
  | 8 => zSd_iadd | 9 => zSd_isub | 10 => zSd_imul | 11 => zSd_idiv | 12 => zSd_irem | 13 => zSd_ishl | 14 => zSd_ishr | 15 => zSd_iushr
  | 16 => zSd_iand | 17 => zSd_ior | 18 => zSd_ixor | 19 => zSd_i2l | 20 => zSd_l2i | 21 => zSd_i2b | 22 => zSd_ladd | 23 => zSd_lmul
  | 24 => zSd_ldiv | 25 => zSd_lconst | 26 => zSd_lcmp | 27 => zSd_dup | 28 => zSd_dup2 | 29 => zSd_pop | 30 => zSd_no _ | 31 => zSd_no _
  | 32 => zSd_no _ | 33 => zSd_no _ | 34 => zSd_no _ | 35 => zSd_no _ | 36 => zSd_no _ | 37 => zSd_get | 38 => zSd_put | 39 => zSd_iald
  | 40 => zSd_iast | 41 => zSd_bald | 42 => zSd_bast | 43 => zSd_last | 44 => zSd_aald | 45 => zSd_no _ | 46 => zSd_alen | 47 => zSd_no _
  | 48 => zSd_no _ | 49 => zSd_no _ | 50 => zSd_no _ | 51 => zSd_no _ | 52 => zSd_no _ | 53 => zSd_no _ | 54 => zSd_no _ | 55 => zSd_no _
  | 56 => zSd_no _ | 57 => zSd_no _ | 58 => zSd_ldcs | 59 => zSd_slength | 60 => zSd_scharAt | 61 => zSd_acopy | 62 => zSd_no _ | 63 => zSd_null
  | 64 => zSd_no _ | 65 => zSd_no _ | 66 => zSd_no _ | 67 => zSd_min | 68 => zSd_max
  | n + 69 => zSd_no _
end
section
/-! what a branch tells -/
theorem zGi {ty : List Nat} {a : zA} {x : Int32} (g : zG ty a (.int x)) : a.1 = 0 ∧ a.2.1 ≤ x.toInt ∧ x.toInt ≤ a.2.2 := by
  unfold zG at g
  split at g
  · obtain ⟨y, e, g1, g2⟩ := g; cases e; exact ⟨rfl, g1, g2⟩
  · obtain ⟨y, e, -⟩ := g; cases e
  · obtain ⟨y, t, e, -⟩ := g; cases e
  · rcases g with e | ⟨y, t, e, -⟩ <;> cases e
  · cases g
  · cases g
  · cases g
noncomputable def zref1 (env : List zEn) (i : Nat) (lo hi : Int) : Option (List zEn) := match zlku env i with
  | some e => if max e.1.2.1 lo ≤ min e.1.2.2 hi then some (zse env ((e.1.1, max e.1.2.1 lo, min e.1.2.2 hi), e.2) i) else none
  | none => none
theorem zref1_ok {ty : List Nat} {ρ : List Value} {env : List zEn} {i : Nat} {x : Int32} {lo hi : Int} (E : zEv ty ρ env) (hx : ρ[i]? = some (.int x)) (h1 : lo ≤ x.toInt) (h2 : x.toInt ≤ hi) : ∃ env', zref1 env i lo hi = some env' ∧ zEv ty ρ env' := by
  obtain ⟨e, he, -⟩ := E.ex hx
  obtain ⟨g1, g2⟩ := E.2 i e _ he hx
  obtain ⟨k0, k1, k2⟩ := zGi g1
  have hm : max e.1.2.1 lo ≤ min e.1.2.2 hi := by omega
  refine ⟨env.set i ((e.1.1, max e.1.2.1 lo, min e.1.2.2 hi), e.2), by unfold zref1; rw [zlku_eq, he]; simp only [zse_eq]; exact if_pos hm, by rw [List.length_set]; exact E.1, fun j e9 v9 hj hv => ?_⟩
  by_cases hji : j = i
  · subst hji
    rw [List.getElem?_set_self (List.getElem?_eq_some_iff.mp he).1] at hj
    cases hj
    rw [hx] at hv
    cases hv
    refine ⟨?_, g2⟩
    dsimp only
    rw [k0]
    exact ⟨x, rfl, by omega, by omega⟩
  · rw [List.getElem?_set_ne (fun z => hji z.symm)] at hj
    exact E.2 j e9 v9 hj hv
noncomputable def zref (env : List zEn) (i : Nat) (lo hi : Int) : Option (List zEn) := match zlku env i with
  | some e => (match zref1 env i lo hi with
    | some env1 => if e.2.1 = 0 then some env1 else zref1 env1 (e.2.1 - 1) (max e.1.2.1 lo - e.2.2) (min e.1.2.2 hi - e.2.2)
    | none => none)
  | none => none
theorem zref_ok {ty : List Nat} {ρ : List Value} {env : List zEn} {i : Nat} {x : Int32} {lo hi : Int} (E : zEv ty ρ env) (hx : ρ[i]? = some (.int x)) (h1 : lo ≤ x.toInt) (h2 : x.toInt ≤ hi) : ∃ env', zref env i lo hi = some env' ∧ zEv ty ρ env' := by
  obtain ⟨e, he, -⟩ := E.ex hx
  obtain ⟨g1, g2⟩ := E.2 i e _ he hx
  obtain ⟨k0, k1, k2⟩ := zGi g1
  obtain ⟨env1, e1, E1⟩ := zref1_ok E hx h1 h2
  unfold zref
  rw [zlku_eq, he]
  dsimp only
  rw [e1]
  dsimp only
  by_cases hb : e.2.1 = 0
  · rw [if_pos hb]
    exact ⟨env1, rfl, E1⟩
  · rw [if_neg hb]
    obtain ⟨x9, y, q1, q2, q3⟩ := g2 (e.2.1 - 1) (by omega)
    cases q1
    exact zref1_ok E1 q2 (by omega) (by omega)
noncomputable def zlt (env : List zEn) (x y : Nat) : Option (List zEn) := if (zav env x).2.1 < (zav env y).2.2 then (match zref env x (zav env x).2.1 ((zav env y).2.2 - 1) with
  | some e => zref e y ((zav env x).2.1 + 1) (zav env y).2.2
  | none => none) else none
noncomputable def zle (env : List zEn) (x y : Nat) : Option (List zEn) := if (zav env x).2.1 ≤ (zav env y).2.2 then (match zref env x (zav env x).2.1 (zav env y).2.2 with
  | some e => zref e y (zav env x).2.1 (zav env y).2.2
  | none => none) else none
noncomputable def zeq (env : List zEn) (x y : Nat) : Option (List zEn) := match zref env x (max (zav env x).2.1 (zav env y).2.1) (min (zav env x).2.2 (zav env y).2.2) with
  | some e => zref e y (max (zav env x).2.1 (zav env y).2.1) (min (zav env x).2.2 (zav env y).2.2)
  | none => none
noncomputable def zne (env : List zEn) (x y : Nat) : Option (List zEn) :=
  if x = y then none else if (zav env y).2.1 = (zav env y).2.2 then (if (zav env x).2.1 = (zav env y).2.1 then zref env x ((zav env x).2.1 + 1) (zav env x).2.2 else if (zav env x).2.2 = (zav env y).2.1 then zref env x (zav env x).2.1 ((zav env x).2.2 - 1) else some env)
  else if (zav env x).2.1 = (zav env x).2.2 then (if (zav env y).2.1 = (zav env x).2.1 then zref env y ((zav env y).2.1 + 1) (zav env y).2.2 else if (zav env y).2.2 = (zav env x).2.1 then zref env y (zav env y).2.1 ((zav env y).2.2 - 1) else some env) else some env
noncomputable def zcmp (env : List zEn) (b x y : Nat) : Option (List zEn) := match b with
  | 0 => zeq env x y
  | 1 => zne env x y
  | 2 => zlt env x y
  | 3 => zle env y x
  | 4 => zlt env y x
  | _ => zle env x y
section ZCMP
variable {ty : List Nat} {ρ : List Value} {env : List zEn} {x y : Nat} {u w : Int32}
theorem zlt_ok (E : zEv ty ρ env) (hx : ρ[x]? = some (.int u)) (hy : ρ[y]? = some (.int w)) (h : u.toInt < w.toInt) : ∃ env', zlt env x y = some env' ∧ zEv ty ρ env' := by
  obtain ⟨-, x1, x2⟩ := zGi (E.at hx)
  obtain ⟨-, y1, y2⟩ := zGi (E.at hy)
  unfold zlt
  rw [if_pos (by omega)]
  obtain ⟨e1, q1, E1⟩ := zref_ok (lo := (zav env x).2.1) (hi := (zav env y).2.2 - 1) E hx (by omega) (by omega)
  rw [q1]
  exact zref_ok E1 hy (by omega) (by omega)
theorem zle_ok (E : zEv ty ρ env) (hx : ρ[x]? = some (.int u)) (hy : ρ[y]? = some (.int w)) (h : u.toInt ≤ w.toInt) : ∃ env', zle env x y = some env' ∧ zEv ty ρ env' := by
  obtain ⟨-, x1, x2⟩ := zGi (E.at hx)
  obtain ⟨-, y1, y2⟩ := zGi (E.at hy)
  unfold zle
  rw [if_pos (by omega)]
  obtain ⟨e1, q1, E1⟩ := zref_ok (lo := (zav env x).2.1) (hi := (zav env y).2.2) E hx (by omega) (by omega)
  rw [q1]
  exact zref_ok E1 hy (by omega) (by omega)
theorem zeq_ok (E : zEv ty ρ env) (hx : ρ[x]? = some (.int u)) (hy : ρ[y]? = some (.int w)) (h : u.toInt = w.toInt) : ∃ env', zeq env x y = some env' ∧ zEv ty ρ env' := by
  obtain ⟨-, x1, x2⟩ := zGi (E.at hx)
  obtain ⟨-, y1, y2⟩ := zGi (E.at hy)
  unfold zeq
  obtain ⟨e1, q1, E1⟩ := zref_ok (lo := max (zav env x).2.1 (zav env y).2.1) (hi := min (zav env x).2.2 (zav env y).2.2) E hx (by omega) (by omega)
  rw [q1]
  exact zref_ok E1 hy (by omega) (by omega)
theorem zne_ok (E : zEv ty ρ env) (hx : ρ[x]? = some (.int u)) (hy : ρ[y]? = some (.int w)) (h : u.toInt ≠ w.toInt) : ∃ env', zne env x y = some env' ∧ zEv ty ρ env' := by
  obtain ⟨-, x1, x2⟩ := zGi (E.at hx)
  obtain ⟨-, y1, y2⟩ := zGi (E.at hy)
  unfold zne
  rw [if_neg (fun e => by subst e; rw [hx] at hy; cases hy; exact h rfl)]
  split
  · split
    · exact zref_ok E hx (by omega) (by omega)
    · split
      · exact zref_ok E hx (by omega) (by omega)
      · exact ⟨env, rfl, E⟩
  · split
    · split
      · exact zref_ok E hy (by omega) (by omega)
      · split
        · exact zref_ok E hy (by omega) (by omega)
        · exact ⟨env, rfl, E⟩
    · exact ⟨env, rfl, E⟩
theorem zcmp_ok {b : Nat} (E : zEv ty ρ env) (hx : ρ[x]? = some (.int u)) (hy : ρ[y]? = some (.int w)) (h : z_cmp b u w = true) : ∃ env', zcmp env b x y = some env' ∧ zEv ty ρ env' := by
  unfold zcmp
  unfold z_cmp at h
  split at h
  · have e := of_decide_eq_true h
    exact zeq_ok E hx hy (by rw [e])
  · have e : ¬ u = w := by simpa using h
    exact zne_ok E hx hy (fun q => e (Int32.toInt_inj.mp q))
  · have e := of_decide_eq_true h
    rw [Int32.lt_iff_toInt_lt] at e
    exact zlt_ok E hx hy e
  · have e : ¬ u < w := by simpa using h
    rw [Int32.lt_iff_toInt_lt] at e
    exact zle_ok E hy hx (by omega)
  · have e := of_decide_eq_true h
    rw [Int32.lt_iff_toInt_lt] at e
    exact zlt_ok E hy hx e
  · next n0 n1 n2 n3 n4 =>
    have e : ¬ w < u := by simpa using h
    rw [Int32.lt_iff_toInt_lt] at e
    split
    · exact absurd rfl n0
    · exact absurd rfl n1
    · exact absurd rfl n2
    · exact absurd rfl n3
    · exact absurd rfl n4
    · exact zle_ok E hx hy (by omega)
end ZCMP
noncomputable def zneg (b : Nat) : Nat := match b with
  | 0 => 1
  | 1 => 0
  | 2 => 3
  | 3 => 2
  | 4 => 5
  | _ => 4
theorem zneg_ok {b : Nat} {u w : Int32} (h : ¬ z_cmp b u w = true) : z_cmp (zneg b) u w = true := by
  unfold zneg
  unfold z_cmp at h
  split at h
  · unfold z_cmp; simpa using h
  · unfold z_cmp; simpa using h
  · unfold z_cmp; simpa using h
  · unfold z_cmp; simpa using h
  · unfold z_cmp; simpa using h
  · next n0 n1 n2 n3 n4 =>
    split
    · exact absurd rfl n0
    · exact absurd rfl n1
    · exact absurd rfl n2
    · exact absurd rfl n3
    · exact absurd rfl n4
    · unfold z_cmp; simpa using h
end
section
/-! contracts of methods, as data and as said -/
abbrev zCut : Type := Nat × List (Nat × zA) × List (Nat × Int × zA) × List (Nat × Nat × Int × Int)
abbrev zCt : Type := Nat × List zA × List zA × List Nat × List zMod × Nat × (Nat × Nat × Nat × Nat) × List zCut
noncomputable def zcJ (c : zCt) : Nat := c.1
noncomputable def zcA (c : zCt) : List zA := c.2.1
noncomputable def zcR (c : zCt) : List zA := c.2.2.1
noncomputable def zcE (c : zCt) : List Nat := c.2.2.2.1
noncomputable def zcM (c : zCt) : List zMod := c.2.2.2.2.1
noncomputable def zcD (c : zCt) : Nat := c.2.2.2.2.2.1
noncomputable def zcK (c : zCt) : Nat × Nat × Nat × Nat := c.2.2.2.2.2.2.1
noncomputable def zcC (c : zCt) : List zCut := c.2.2.2.2.2.2.2
noncomputable def zAg (ty : List Nat) : List zA → List Value → Prop
  | [], [] => True
  | a :: as, v :: vs => zG ty a v ∧ zAg ty as vs
  | _, _ => False
noncomputable def zRt (ty : List Nat) (ret : List zA) (v : Option Value) : Prop := match ret, v with
  | [], none => True
  | [a], some w => zG ty a w
  | _, _ => False
noncomputable def zPo (tt : Nat → zTy) (Ex : List Nat → zH → Prop) (c : zCt) (ty : List Nat) (h : zH) : zO → zH → Nat → Nat → Prop := fun o h' x y => ∃ ty', zExt ty ty' ∧ zTY tt ty' h' ∧ Ex ty' h' ∧ zFm (zcM c) ty h h' ∧ (match o with
  | .inl v => zRt ty' (zcR c) v ∧ x ≤ (zcK c).1 ∧ y ≤ (zcK c).2.1
  | .inr E => E ∈ zcE c ∧ x ≤ (zcK c).2.2.1 ∧ y ≤ (zcK c).2.2.2)
/-- the contract holds -/
noncomputable def zVd (tt : Nat → zTy) (Ex : List Nat → zH → Prop) (c : zCt) : Prop := ∀ (sx : zX) (d : Nat) (ty : List Nat) (h : zH) (as : List Value), zcD c ≤ d → zTY tt ty h → Ex ty h → zAg ty (zcA c) as → z_ok sx d (zcJ c) 0 (lv_args 0 as) [] h (zPo tt Ex c ty h)
/-! frames -/
noncomputable def zFs (ρ : List Value) : List zAf → List zCf → Prop
  | [], [] => True
  | f :: fs, c :: cs => f.1 = c.1 ∧ f.2.1 = c.2.1 ∧ zLo ρ f.2.2.1 c.2.2.1 ∧ zSk ρ f.2.2.2 c.2.2.2 ∧ zFs ρ fs cs
  | _, _ => False
theorem zFs.mono {ρ ρ' : List Value} (hx : zRx ρ ρ') : ∀ {fs : List zAf} {cs : List zCf}, zFs ρ fs cs → zFs ρ' fs cs
  | [], [], _ => trivial
  | _ :: _, _ :: _, h => ⟨h.1, h.2.1, h.2.2.1.mono hx, h.2.2.2.1.mono hx, zFs.mono hx h.2.2.2.2⟩
theorem zFs.len {ρ : List Value} : ∀ {fs : List zAf} {cs : List zCf}, zFs ρ fs cs → cs.length = fs.length
  | [], [], _ => rfl
  | _ :: _, _ :: _, h => by rw [List.length_cons, List.length_cons, zFs.len h.2.2.2.2]
theorem zSk.len {ρ : List Value} : ∀ {is : List Nat} {vs : List Value}, zSk ρ is vs → vs.length = is.length
  | [], [], _ => rfl
  | _ :: _, _ :: _, h => by rw [List.length_cons, List.length_cons, zSk.len h.2]
theorem zSk.take {ρ : List Value} : ∀ (n : Nat) {is : List Nat} {vs : List Value}, zSk ρ is vs → zSk ρ (is.take n) (vs.take n)
  | 0, _, _, _ => by rw [List.take_zero, List.take_zero]; trivial
  | n + 1, [], [], _ => trivial
  | n + 1, _ :: _, _ :: _, h => ⟨h.1, zSk.take n h.2⟩
theorem zSk.drop {ρ : List Value} : ∀ (n : Nat) {is : List Nat} {vs : List Value}, zSk ρ is vs → zSk ρ (is.drop n) (vs.drop n)
  | 0, _, _, h => h
  | n + 1, [], [], _ => trivial
  | n + 1, _ :: _, _ :: _, h => zSk.drop n h.2
theorem zSk.app {ρ : List Value} : ∀ {is js : List Nat} {vs ws : List Value}, zSk ρ is vs → zSk ρ js ws → zSk ρ (is ++ js) (vs ++ ws)
  | [], _, [], _, _, h => h
  | _ :: _, _, _ :: _, _, h, h2 => ⟨h.1, zSk.app h.2 h2⟩
theorem zSk.rev {ρ : List Value} : ∀ {is : List Nat} {vs : List Value}, zSk ρ is vs → zSk ρ is.reverse vs.reverse
  | [], [], _ => trivial
  | i :: is, v :: vs, h => by
    rw [List.reverse_cons, List.reverse_cons]
    exact (zSk.rev h.2).app ⟨h.1, trivial⟩
abbrev zSt : Type := List zEn × List zMe × List zAf × Nat × Nat
/-- a state of the checker and one of the machine -/
noncomputable def zRl (tt : Nat → zTy) (Ex : List Nat → zH → Prop) (c : zCt) (ty0 : List Nat) (h0 : zH) (ρ0 : List Value) (s : zSt) (cf : List zCf) (h : zH) (X Y : Nat) : Prop := ∃ (ty : List Nat) (ρ : List Value), zRx ρ0 ρ ∧ zExt ty0 ty ∧ zTY tt ty h ∧ Ex ty h ∧ zFm (zcM c) ty0 h0 h ∧ zEv ty ρ s.1 ∧ zMm h ρ s.2.1 ∧ zFs ρ s.2.2.1 cf ∧ X ≤ s.2.2.2.1 ∧ Y ≤ s.2.2.2.2
/-- what the checker's successors owe -/
noncomputable def zTo (tt : Nat → zTy) (Ex : List Nat → zH → Prop) (c : zCt) (ty0 : List Nat) (h0 : zH) (ρ0 : List Value) (sx : zX) (d0 : Nat) (Φ : zO → zH → Nat → Nat → Prop) (l : List zSt) : Prop := (∀ o h x y, zPo tt Ex c ty0 h0 o h x y → Φ o h x y) ∧ ∀ s ∈ l, ∀ (cf : List zCf) (h : zH) (X Y : Nat), zRl tt Ex c ty0 h0 ρ0 s cf h X Y → zGo sx d0 Φ cf h X Y
noncomputable def zStable (tt : Nat → zTy) (Ex : List Nat → zH → Prop) (ms : List zMod) : Prop := ∀ (ty : List Nat) (h h' : zH), zTY tt ty h → zTY tt ty h' → h.length = h'.length → zFm ms ty h h' → Ex ty h → Ex ty h'
theorem zTY.len {tt : Nat → zTy} {ty : List Nat} {h h' : zH} (T : zTY tt ty h) (T' : zTY tt ty h') : h.length = h'.length := by rw [← T.1, T'.1]
theorem zqs_no {o : Nat} (ho : o = 50 ∨ o = 51 ∨ o = 52 ∨ o = 53 ∨ o = 62 ∨ o = 54 ∨ o = 55 ∨ o = 72 ∨ o = 56 ∨ o = 73) : zqs.getD o zq_no = zq_no := by
  rcases ho with rfl | rfl | rfl | rfl | rfl | rfl | rfl | rfl | rfl | rfl <;> rfl
section ZSTEP
variable {tt : Nat → zTy} {Ex : List Nat → zH → Prop} {ct : zCt} {ty0 : List Nat} {h0 : zH} {ρ0 : List Value} {sx : zX} {d0 : Nat} {j k : Nat} {loc : zLs} {stk : List Nat} {fs : List zAf} {X9 Y9 X Y : Nat} {env : List zEn} {me : List zMe} {lo : zL} {st : List Value} {cfs : List zCf} {h : zH} {ty : List Nat} {ρ : List Value} {M : zMi} {cs : List zI} {hs : List zHd} {i : zI} {l : List zSt} {Φ : zO → zH → Nat → Nat → Prop}
/-- a plain step -/
noncomputable def zt_op (tt : Nat → zTy) (ct : zCt) (i : zI) (env : List zEn) (me : List zMe) (j k : Nat) (loc : zLs) (stk : List Nat) (fs : List zAf) (X Y : Nat) : Option (List zSt) := match (zlkd zqs i.1 zq_no) tt (zcD ct - fs.length) (zcM ct) i.2.1 i.2.2.1 i.2.2.2 (env, me, loc, stk) with
  | some q => some [(q.1, q.2.1, (j, k + 1, q.2.2.1, q.2.2.2) :: fs, X, Y)]
  | none => none
theorem zt_op_ok (hst : zStable tt Ex (zcM ct)) (hd : zcD ct ≤ d0) (hM : z_ms[j]? = some M) (hC : z_cs[j]? = some cs) (hH : z_hs[j]? = some hs) (hi : cs[k]? = some i) (a1 : zRx ρ0 ρ) (a2 : zExt ty0 ty) (a3 : zTY tt ty h) (a4 : Ex ty h) (a5 : zFm (zcM ct) ty0 h0 h) (a6 : zEv ty ρ env) (a7 : zMm h ρ me) (a8 : zLo ρ loc lo) (a9 : zSk ρ stk st) (a10 : zFs ρ fs cfs) (a11 : X ≤ X9) (a12 : Y ≤ Y9)
    (hq : zt_op tt ct i env me j k loc stk fs X9 Y9 = some l) (hl : zTo tt Ex ct ty0 h0 ρ0 sx d0 Φ l) : zGo sx d0 Φ ((j, k, lo, st) :: cfs) h X Y := by
  unfold zt_op at hq
  rw [zlkd_eq] at hq
  split at hq
  case h_2 => cases hq
  next q hq1 =>
  cases hq
  have hno : ¬ (i.1 = 50 ∨ i.1 = 51 ∨ i.1 = 52 ∨ i.1 = 53 ∨ i.1 = 62 ∨ i.1 = 54 ∨ i.1 = 55 ∨ i.1 = 72 ∨ i.1 = 56 ∨ i.1 = 73) := fun h9 => by
    rw [zqs_no h9] at hq1; cases hq1
  obtain ⟨ρ', lo', st', h', ho, r1, r2, r3, r4, r5, r6, r7⟩ := zSd_all i.1 tt sx _ (d0 - cfs.length) _ _ _ _ k ty ρ _ q lo st h (by rw [a10.len]; omega) a3 a6 a7 a8 a9 hq1
  refine zGo.step hM hC hH hi (by omega) ho ?_
  refine hl.2 _ (List.mem_singleton.mpr rfl) _ h' X Y ⟨ty, ρ', a1.tr r1, a2, r2, hst ty h h' a3 r2 (a3.len r2) r7 a4, a5.tr a2 r7, r3, r4, ?_, a11, a12⟩
  exact ⟨rfl, rfl, r5, r6, a10.mono r1⟩
/-- a step that goes on elsewhere -/
theorem zt_jump {k' : Nat} {env' : List zEn} {loc' : zLs} {stk' : List Nat} {lo' : zL} {st' : List Value} {ρ' : List Value} (hM : z_ms[j]? = some M) (hC : z_cs[j]? = some cs) (hH : z_hs[j]? = some hs) (hi : cs[k]? = some i) (hn : i.1 ≠ 50 ∧ i.1 ≠ 51 ∧ i.1 ≠ 52 ∧ i.1 ≠ 53 ∧ i.1 ≠ 62 ∧ i.1 ≠ 54 ∧ i.1 ≠ 55 ∧ i.1 ≠ 72 ∧ i.1 ≠ 56 ∧ i.1 ≠ 73) (ho : (z_ops.getD i.1 z_no) sx (d0 - cfs.length) i.2.1 i.2.2.1 i.2.2.2 k lo st h = zn k' lo' st' h) (a1 : zRx ρ0 ρ) (a2 : zExt ty0 ty) (a3 : zTY tt ty h) (a4 : Ex ty h) (a5 : zFm (zcM ct) ty0 h0 h) (a7 : zMm h ρ me) (a10 : zFs ρ fs cfs) (a11 : X ≤ X9) (a12 : Y ≤ Y9)
    (r1 : zRx ρ ρ') (r3 : zEv ty ρ' env') (r5 : zLo ρ' loc' lo') (r6 : zSk ρ' stk' st') (hm : (env', me, (j, k', loc', stk') :: fs, X9, Y9) ∈ l) (hl : zTo tt Ex ct ty0 h0 ρ0 sx d0 Φ l) : zGo sx d0 Φ ((j, k, lo, st) :: cfs) h X Y := by
  refine zGo.step hM hC hH hi hn ho ?_
  exact hl.2 _ hm _ h X Y ⟨ty, ρ', a1.tr r1, a2, a3, a4, a5, r3, a7.mono r1, ⟨rfl, rfl, r5, r6, a10.mono r1⟩, a11, a12⟩
noncomputable def zt_br (b : Nat) (a : Nat) (env : List zEn) (me : List zMe) (j k : Nat) (loc : zLs) (x y : Nat) (stk : List Nat) (fs : List zAf) (X Y : Nat) : List zSt :=
  (match zcmp env b x y with
  | some e => [(e, me, (j, a, loc, stk) :: fs, X, Y)]
  | none => []) ++ (match zcmp env (zneg b) x y with
  | some e => [(e, me, (j, k + 1, loc, stk) :: fs, X, Y)]
  | none => [])
noncomputable def zt_if (i : zI) (env : List zEn) (me : List zMe) (j k : Nat) (loc : zLs) (stk : List Nat) (fs : List zAf) (X Y : Nat) : Option (List zSt) := match i.1, stk with
  | 30, _ => some [(env, me, (j, i.2.1, loc, stk) :: fs, X, Y)]
  | 31, x :: stk => if (zav env x).1 = 0 then some (zt_br i.2.2.1 i.2.1 (zsn env ((0, 0, 0), 0, 0)) me j k loc x (zln env) stk fs X Y) else none
  | 32, y :: x :: stk => if (zav env x).1 = 0 ∧ (zav env y).1 = 0 then some (zt_br i.2.2.1 i.2.1 env me j k loc x y stk fs X Y) else none
  | 33, x :: stk => if zisR (zav env x) = true then some [(env, me, (j, i.2.1, loc, stk) :: fs, X, Y)] else if (zav env x).1 = 4 then some [(env, me, (j, k + 1, loc, stk) :: fs, X, Y)] else if (zav env x).1 = 3 then some [(env.set x ((2, (zav env x).2.1, (zav env x).2.2), 0, 0), me, (j, i.2.1, loc, stk) :: fs, X, Y), (env.set x ((4, 0, 0), 0, 0), me, (j, k + 1, loc, stk) :: fs, X, Y)] else none
  | _, _ => none
theorem zEv.set0 {e : zEn} {v : Value} {x : Nat} (E : zEv ty ρ env) (hx : ρ[x]? = some v) (hg : zG ty e.1 v) (h0 : e.2.1 = 0) : zEv ty ρ (env.set x e) := by
  refine ⟨by rw [List.length_set]; exact E.1, fun q e9 v9 hq hv => ?_⟩
  by_cases hqx : q = x
  · subst hqx
    obtain ⟨e8, he8, -⟩ := E.ex hx
    rw [List.getElem?_set_self (List.getElem?_eq_some_iff.mp he8).1] at hq
    cases hq
    rw [hx] at hv
    cases hv
    exact ⟨hg, fun b hb => by rw [h0] at hb; cases hb⟩
  · rw [List.getElem?_set_ne (fun z => hqx z.symm)] at hq
    exact E.2 q e9 v9 hq hv
theorem zt_if_ok (hM : z_ms[j]? = some M) (hC : z_cs[j]? = some cs) (hH : z_hs[j]? = some hs) (hi : cs[k]? = some i) (a1 : zRx ρ0 ρ) (a2 : zExt ty0 ty) (a3 : zTY tt ty h) (a4 : Ex ty h) (a5 : zFm (zcM ct) ty0 h0 h) (a6 : zEv ty ρ env) (a7 : zMm h ρ me) (a8 : zLo ρ loc lo) (a9 : zSk ρ stk st) (a10 : zFs ρ fs cfs) (a11 : X ≤ X9) (a12 : Y ≤ Y9)
    (hq : zt_if i env me j k loc stk fs X9 Y9 = some l) (hl : zTo tt Ex ct ty0 h0 ρ0 sx d0 Φ l) : zGo sx d0 Φ ((j, k, lo, st) :: cfs) h X Y := by
  unfold zt_if at hq
  split at hq
  · next hi1 =>
    cases hq
    exact zt_jump (ρ' := ρ) (k' := i.2.1) hM hC hH hi (by omega) (by rw [hi1]; rfl) a1 a2 a3 a4 a5 a7 a10 a11 a12 zRx.rf a6 a8 a9 (List.mem_singleton.mpr rfl) hl
  · next x stk hi1 =>
    rw [zsn_eq, zln_eq] at hq
    match st, a9 with
    | v :: st, a9 =>
    split at hq
    case isFalse => cases hq
    next hz =>
    cases hq
    obtain ⟨u, rfl, u1, u2⟩ := zG0 (a6.at a9.1) hz
    have E' : zEv ty (ρ ++ [.int 0]) (env ++ [((0, 0, 0), 0, 0)]) := a6.push0 (a := (0, 0, 0)) (v := .int 0) ⟨0, rfl, by decide, by decide⟩
    have hop : ∀ k', (if z_cmp i.2.2.1 u 0 = true then i.2.1 else k + 1) = k' → (z_ops.getD i.1 z_no) sx (d0 - cfs.length) i.2.1 i.2.2.1 i.2.2.2 k lo (.int u :: st) h = zn k' lo st h := fun k' e => by rw [hi1, ← e]; rfl
    by_cases hcm : z_cmp i.2.2.1 u 0 = true
    · obtain ⟨e1, q1, E1⟩ := zcmp_ok E' (zRx.app _ _ a9.1) (a6.new (.int 0)) hcm
      refine zt_jump (ρ' := ρ ++ [.int 0]) (k' := i.2.1) hM hC hH hi (by omega) (hop _ (if_pos hcm)) a1 a2 a3 a4 a5 a7 a10 a11 a12 zRx.app E1 (a8.mono zRx.app) (a9.2.mono zRx.app) (List.mem_append_left _ ?_) hl
      rw [q1]
      exact List.mem_singleton.mpr rfl
    · obtain ⟨e1, q1, E1⟩ := zcmp_ok E' (zRx.app _ _ a9.1) (a6.new (.int 0)) (zneg_ok hcm)
      refine zt_jump (ρ' := ρ ++ [.int 0]) (k' := k + 1) hM hC hH hi (by omega) (hop _ (if_neg hcm)) a1 a2 a3 a4 a5 a7 a10 a11 a12 zRx.app E1 (a8.mono zRx.app) (a9.2.mono zRx.app) (List.mem_append_right _ ?_) hl
      rw [q1]
      exact List.mem_singleton.mpr rfl
  · next y x stk hi1 =>
    match st, a9 with
    | w :: v :: st, a9 =>
    split at hq
    case isFalse => cases hq
    next hz =>
    cases hq
    obtain ⟨u, rfl, u1, u2⟩ := zG0 (a6.at a9.2.1) hz.1
    obtain ⟨z, rfl, z1, z2⟩ := zG0 (a6.at a9.1) hz.2
    have hop : ∀ k', (if z_cmp i.2.2.1 u z = true then i.2.1 else k + 1) = k' → (z_ops.getD i.1 z_no) sx (d0 - cfs.length) i.2.1 i.2.2.1 i.2.2.2 k lo (.int z :: .int u :: st) h = zn k' lo st h := fun k' e => by rw [hi1, ← e]; rfl
    by_cases hcm : z_cmp i.2.2.1 u z = true
    · obtain ⟨e1, q1, E1⟩ := zcmp_ok a6 a9.2.1 a9.1 hcm
      refine zt_jump (ρ' := ρ) (k' := i.2.1) hM hC hH hi (by omega) (hop _ (if_pos hcm)) a1 a2 a3 a4 a5 a7 a10 a11 a12 zRx.rf E1 a8 a9.2.2 (List.mem_append_left _ ?_) hl
      rw [q1]
      exact List.mem_singleton.mpr rfl
    · obtain ⟨e1, q1, E1⟩ := zcmp_ok a6 a9.2.1 a9.1 (zneg_ok hcm)
      refine zt_jump (ρ' := ρ) (k' := k + 1) hM hC hH hi (by omega) (hop _ (if_neg hcm)) a1 a2 a3 a4 a5 a7 a10 a11 a12 zRx.rf E1 a8 a9.2.2 (List.mem_append_right _ ?_) hl
      rw [q1]
      exact List.mem_singleton.mpr rfl
  · next x stk hi1 =>
    match st, a9 with
    | v :: st, a9 =>
    split at hq
    · next hz =>
      cases hq
      obtain ⟨r, rfl⟩ := zGr (a6.at a9.1) hz
      exact zt_jump (ρ' := ρ) (k' := i.2.1) hM hC hH hi (by omega) (by rw [hi1]; rfl) a1 a2 a3 a4 a5 a7 a10 a11 a12 zRx.rf a6 a8 a9.2 (List.mem_singleton.mpr rfl) hl
    · split at hq
      · next hz =>
        cases hq
        have e := zG4 (a6.at a9.1) hz
        subst e
        exact zt_jump (ρ' := ρ) (k' := k + 1) hM hC hH hi (by omega) (by rw [hi1]; rfl) a1 a2 a3 a4 a5 a7 a10 a11 a12 zRx.rf a6 a8 a9.2 (List.mem_singleton.mpr rfl) hl
      · split at hq
        · next hz =>
          cases hq
          rcases zG3 (a6.at a9.1) hz with rfl | ⟨r, t, rfl, g1, g2, g3⟩
          · exact zt_jump (ρ' := ρ) (k' := k + 1) hM hC hH hi (by omega) (by rw [hi1]; rfl) a1 a2 a3 a4 a5 a7 a10 a11 a12 zRx.rf (a6.set0 (e := ((4, 0, 0), 0, 0)) a9.1 rfl rfl) a8 a9.2 (List.mem_cons_of_mem _ (List.mem_singleton.mpr rfl)) hl
          · exact zt_jump (ρ' := ρ) (k' := i.2.1) hM hC hH hi (by omega) (by rw [hi1]; rfl) a1 a2 a3 a4 a5 a7 a10 a11 a12 zRx.rf (a6.set0 (e := ((2, (zav env x).2.1, (zav env x).2.2), 0, 0)) a9.1 ⟨r, t, rfl, g1, g2, g3⟩ rfl) a8 a9.2 List.mem_cons_self hl
        · cases hq
  · cases hq
end ZSTEP
end
section
/-! switches, returns, throws, calls -/
noncomputable def zt_cs (env : List zEn) (me : List zMe) (j : Nat) (loc : zLs) (x : Nat) (stk : List Nat) (fs : List zAf) (X Y : Nat) (lo hi : Int) (tg : Nat) : List zSt := match zref env x lo hi with
  | some e => [(e, me, (j, tg, loc, stk) :: fs, X, Y)]
  | none => []
noncomputable def zt_tab (env : List zEn) (me : List zMe) (j : Nat) (loc : zLs) (x : Nat) (stk : List Nat) (fs : List zAf) (X Y : Nat) : Int → List Nat → List zSt
  | _, [] => []
  | v, tg :: tgs => zt_cs env me j loc x stk fs X Y v v tg ++ zt_tab env me j loc x stk fs X Y (v + 1) tgs
noncomputable def zt_lk (env : List zEn) (me : List zMe) (j : Nat) (loc : zLs) (x : Nat) (stk : List Nat) (fs : List zAf) (X Y : Nat) : List (Int × Nat) → List zSt
  | [] => []
  | p :: ps => zt_cs env me j loc x stk fs X Y p.1 p.1 p.2 ++ zt_lk env me j loc x stk fs X Y ps
noncomputable def zt_sw (i : zI) (env : List zEn) (me : List zMe) (j : Nat) (loc : zLs) (stk : List Nat) (fs : List zAf) (X Y : Nat) : Option (List zSt) := match i.1, stk with
  | 35, x :: stk => (match z_sw[i.2.1]? with
    | some t => if (zav env x).1 = 0 then some (zt_tab env me j loc x stk fs X Y t.1 t.2.1 ++ (zt_cs env me j loc x stk fs X Y zMn (t.1 - 1) t.2.2 ++ zt_cs env me j loc x stk fs X Y (t.1 + (t.2.1.length : Int)) zMx t.2.2)) else none
    | none => none)
  | 36, x :: stk => (match z_lk[i.2.1]? with
    | some t => if (zav env x).1 = 0 then some ((env, me, (j, t.2, loc, stk) :: fs, X, Y) :: zt_lk env me j loc x stk fs X Y t.1) else none
    | none => none)
  | _, _ => none
theorem zt_tab_mem {env env' : List zEn} {me : List zMe} {j : Nat} {loc : zLs} {x : Nat} {stk : List Nat} {fs : List zAf} {X Y : Nat} : ∀ {v : Int} {tgs : List Nat} {n tg : Nat}, tgs[n]? = some tg → zref env x (v + (n : Int)) (v + (n : Int)) = some env' → (env', me, (j, tg, loc, stk) :: fs, X, Y) ∈ zt_tab env me j loc x stk fs X Y v tgs
  | _, [], n, _, h, _ => by simp at h
  | v, t0 :: tgs, 0, tg, h, h2 => by
    simp only [List.getElem?_cons_zero, Option.some.injEq] at h
    subst h
    rw [zt_tab]
    refine List.mem_append_left _ ?_
    unfold zt_cs
    rw [show v + ((0 : Nat) : Int) = v by omega] at h2
    rw [h2]
    exact List.mem_singleton.mpr rfl
  | v, t0 :: tgs, n + 1, tg, h, h2 => by
    rw [zt_tab]
    refine List.mem_append_right _ (zt_tab_mem (n := n) (by simpa using h) ?_)
    rw [show v + 1 + (n : Int) = v + ((n + 1 : Nat) : Int) by omega]
    exact h2
theorem zt_cs_mem {env env' : List zEn} {me : List zMe} {j : Nat} {loc : zLs} {x : Nat} {stk : List Nat} {fs : List zAf} {X Y : Nat} {lo hi : Int} {tg : Nat} (h : zref env x lo hi = some env') : (env', me, (j, tg, loc, stk) :: fs, X, Y) ∈ zt_cs env me j loc x stk fs X Y lo hi tg := by
  unfold zt_cs
  rw [h]
  exact List.mem_singleton.mpr rfl
section ZCTL
variable {tt : Nat → zTy} {Ex : List Nat → zH → Prop} {ct : zCt} {ty0 : List Nat} {h0 : zH} {ρ0 : List Value} {sx : zX} {d0 : Nat} {j k : Nat} {loc : zLs} {stk : List Nat} {fs : List zAf} {X9 Y9 X Y : Nat} {env : List zEn} {me : List zMe} {lo : zL} {st : List Value} {cfs : List zCf} {h : zH} {ty : List Nat} {ρ : List Value} {M : zMi} {cs : List zI} {hs : List zHd} {i : zI} {l : List zSt} {Φ : zO → zH → Nat → Nat → Prop}
theorem zt_lk_mem {u : Int32} {x : Nat} (E : zEv ty ρ env) (hx : ρ[x]? = some (.int u)) : ∀ {ps : List (Int × Nat)} {d : Nat}, z_lkr ps d u.toInt = d ∨ ∃ env', zEv ty ρ env' ∧ (env', me, (j, z_lkr ps d u.toInt, loc, stk) :: fs, X9, Y9) ∈ zt_lk env me j loc x stk fs X9 Y9 ps
  | [], d => Or.inl rfl
  | p :: ps, d => by
    rw [zt_lk]
    obtain ⟨pa, pn⟩ := p
    rw [z_lkr]
    by_cases hp : pa = u.toInt
    · rw [if_pos hp]
      obtain ⟨e1, q1, E1⟩ := zref_ok (lo := pa) (hi := pa) E hx (by omega) (by omega)
      exact Or.inr ⟨e1, E1, List.mem_append_left _ (zt_cs_mem q1)⟩
    · rw [if_neg hp]
      rcases zt_lk_mem E hx (ps := ps) (d := d) with q | ⟨e1, E1, q⟩
      · exact Or.inl q
      · exact Or.inr ⟨e1, E1, List.mem_append_right _ q⟩
theorem zt_sw_ok (hM : z_ms[j]? = some M) (hC : z_cs[j]? = some cs) (hH : z_hs[j]? = some hs) (hi : cs[k]? = some i) (a1 : zRx ρ0 ρ) (a2 : zExt ty0 ty) (a3 : zTY tt ty h) (a4 : Ex ty h) (a5 : zFm (zcM ct) ty0 h0 h) (a6 : zEv ty ρ env) (a7 : zMm h ρ me) (a8 : zLo ρ loc lo) (a9 : zSk ρ stk st) (a10 : zFs ρ fs cfs) (a11 : X ≤ X9) (a12 : Y ≤ Y9)
    (hq : zt_sw i env me j loc stk fs X9 Y9 = some l) (hl : zTo tt Ex ct ty0 h0 ρ0 sx d0 Φ l) : zGo sx d0 Φ ((j, k, lo, st) :: cfs) h X Y := by
  unfold zt_sw at hq
  split at hq
  · next x stk hi1 =>
    match st, a9 with
    | v :: st, a9 =>
    split at hq
    case h_2 => cases hq
    next t ht =>
    split at hq
    case isFalse => cases hq
    next hz =>
    cases hq
    obtain ⟨u, rfl, u1, u2⟩ := zG0 (a6.at a9.1) hz
    have ub := zb32 u
    have e1 : zMn = -2147483648 := rfl
    have e2 : zMx = 2147483647 := rfl
    have hop : ∀ k', z_swt t u = k' → (z_ops.getD i.1 z_no) sx (d0 - cfs.length) i.2.1 i.2.2.1 i.2.2.2 k lo (.int u :: st) h = zn k' lo st h := fun k' e => by
      rw [hi1, ← e]
      show zo_tsw sx (d0 - cfs.length) i.2.1 i.2.2.1 i.2.2.2 k lo (.int u :: st) h = zn (z_swt t u) lo st h
      unfold zo_tsw
      dsimp only
      rw [ht]
    by_cases hlow : u.toInt < t.1
    · obtain ⟨e1, q1, E1⟩ := zref_ok (lo := zMn) (hi := t.1 - 1) a6 a9.1 (by omega) (by omega)
      exact zt_jump (ρ' := ρ) (k' := t.2.2) hM hC hH hi (by omega) (hop _ (by unfold z_swt; exact if_pos hlow)) a1 a2 a3 a4 a5 a7 a10 a11 a12 zRx.rf E1 a8 a9.2 (List.mem_append_right _ (List.mem_append_left _ (zt_cs_mem q1))) hl
    · cases hg : t.2.1[(u.toInt - t.1).toNat]? with
      | some tg =>
        obtain ⟨e1, q1, E1⟩ := zref_ok (lo := t.1 + ((u.toInt - t.1).toNat : Int)) (hi := t.1 + ((u.toInt - t.1).toNat : Int)) a6 a9.1 (by omega) (by omega)
        exact zt_jump (ρ' := ρ) (k' := tg) hM hC hH hi (by omega) (hop _ (by unfold z_swt; rw [if_neg hlow, hg]; rfl)) a1 a2 a3 a4 a5 a7 a10 a11 a12 zRx.rf E1 a8 a9.2 (List.mem_append_left _ (zt_tab_mem hg q1)) hl
      | none =>
        have hlen := List.getElem?_eq_none_iff.mp hg
        obtain ⟨e1, q1, E1⟩ := zref_ok (lo := t.1 + (t.2.1.length : Int)) (hi := zMx) a6 a9.1 (by omega) (by omega)
        exact zt_jump (ρ' := ρ) (k' := t.2.2) hM hC hH hi (by omega) (hop _ (by unfold z_swt; rw [if_neg hlow, hg]; rfl)) a1 a2 a3 a4 a5 a7 a10 a11 a12 zRx.rf E1 a8 a9.2 (List.mem_append_right _ (List.mem_append_right _ (zt_cs_mem q1))) hl
  · next x stk hi1 =>
    match st, a9 with
    | v :: st, a9 =>
    split at hq
    case h_2 => cases hq
    next t ht =>
    split at hq
    case isFalse => cases hq
    next hz =>
    cases hq
    obtain ⟨u, rfl, u1, u2⟩ := zG0 (a6.at a9.1) hz
    have hop : (z_ops.getD i.1 z_no) sx (d0 - cfs.length) i.2.1 i.2.2.1 i.2.2.2 k lo (.int u :: st) h = zn (z_lkr t.1 t.2 u.toInt) lo st h := by
      rw [hi1]
      show zo_lsw2 sx (d0 - cfs.length) i.2.1 i.2.2.1 i.2.2.2 k lo (.int u :: st) h = zn (z_lkr t.1 t.2 u.toInt) lo st h
      unfold zo_lsw2
      dsimp only
      rw [ht]
    rcases zt_lk_mem (me := me) (loc := loc) (stk := stk) (fs := fs) (j := j) (X9 := X9) (Y9 := Y9) a6 a9.1 (ps := t.1) (d := t.2) with q | ⟨e1, E1, q⟩
    · rw [q] at hop
      exact zt_jump (ρ' := ρ) (k' := t.2) hM hC hH hi (by omega) hop a1 a2 a3 a4 a5 a7 a10 a11 a12 zRx.rf a6 a8 a9.2 List.mem_cons_self hl
    · exact zt_jump (ρ' := ρ) hM hC hH hi (by omega) hop a1 a2 a3 a4 a5 a7 a10 a11 a12 zRx.rf E1 a8 a9.2 (List.mem_cons_of_mem _ q) hl
  · cases hq
/-! returns -/
theorem z_fin50 {M : zMi} {i : zI} {d : Nat} {r : Int32} (h : i.1 = 50) : z_fin M i d [.int r] = (match M.2.2.2.2.1 with | some ty => if narrow ty (.int r) = .int r then some (.inl (some (.int r)), 0, 0) else none | none => none) := by
  unfold z_fin
  rw [h]
  rfl
theorem z_fin62 {M : zMi} {i : zI} {d : Nat} {st : List Value} (h : i.1 = 62) : z_fin M i d st = if 6 ≤ d ∧ z_cat st ≤ 8 then some (.inr i.2.1, 1, 6) else none := by
  unfold z_fin
  rw [h]
  all_goals rfl
noncomputable def zt_ro (ct : zCt) (env : List zEn) (v : Option Nat) : Bool := match zcR ct, v with
  | [], none => true
  | [a], some x => zLe (zav env x) a
  | _, _ => false
noncomputable def zt_rk (ct : zCt) (env : List zEn) (me : List zMe) (fs : List zAf) (X Y : Nat) (v : Option Nat) : Option (List zSt) := match fs with
  | [] => if zt_ro ct env v = true ∧ X ≤ (zcK ct).1 ∧ Y ≤ (zcK ct).2.1 then some [] else none
  | f :: fs => match zlku (zlkd z_cs f.1 []) f.2.1, zlku z_hs f.1 with
    | some _, some _ => some [(env, me, (f.1, f.2.1 + 1, f.2.2.1, v.toList ++ f.2.2.2) :: fs, X, Y)]
    | _, _ => none
theorem zt_rk_ok {v : Option Nat} {w : Option Value} (hv : (v = none ∧ w = none) ∨ ∃ x u, v = some x ∧ w = some u ∧ ρ[x]? = some u) (a1 : zRx ρ0 ρ) (a2 : zExt ty0 ty) (a3 : zTY tt ty h) (a4 : Ex ty h) (a5 : zFm (zcM ct) ty0 h0 h) (a6 : zEv ty ρ env) (a7 : zMm h ρ me) (a10 : zFs ρ fs cfs) (a11 : X ≤ X9) (a12 : Y ≤ Y9)
    (hq : zt_rk ct env me fs X9 Y9 v = some l) (hl : zTo tt Ex ct ty0 h0 ρ0 sx d0 Φ l) : zKx sx d0 Φ cfs (.inl w) h X Y := by
  unfold zt_rk at hq
  cases fs with
  | nil =>
    cases cfs with
    | cons c cfs => exact a10.elim
    | nil =>
    dsimp only at hq
    split at hq
    case isFalse => cases hq
    next hc =>
    refine hl.1 _ _ _ _ ⟨ty, a2, a3, a4, a5, ?_, Nat.le_trans a11 hc.2.1, Nat.le_trans a12 hc.2.2⟩
    have h1 := hc.1
    unfold zt_ro at h1
    rcases hv with ⟨rfl, rfl⟩ | ⟨x, u, rfl, rfl, hx⟩
    · split at h1
      · next e1 e2 => rw [e1]; trivial
      · next e2 => cases e2
      · cases h1
    · split at h1
      · next e2 => cases e2
      · next a x9 e1 e2 =>
        cases e2
        rw [e1]
        exact zLe_ok h1 (a6.at hx)
      · cases h1
  | cons f fs =>
    cases cfs with
    | nil => exact a10.elim
    | cons c cfs =>
    dsimp only at hq
    obtain ⟨b1, b2, b3, b4, b5⟩ := a10
    obtain ⟨cj, ck, clo, cst⟩ := c
    dsimp only at b1 b2 b3 b4
    simp only [zlku_eq, zlkd_eq] at hq
    split at hq
    case h_2 => cases hq
    next i hs w3 w2 =>
    cases hq
    rw [b1, b2] at w3
    rw [b1] at w2
    obtain ⟨cs, w1⟩ : ∃ cs, z_cs[cj]? = some cs := by
      cases hC : z_cs[cj]? with
      | none => rw [List.getD_eq_getElem?_getD, hC] at w3; simp at w3
      | some cs => exact ⟨cs, rfl⟩
    rw [List.getD_eq_getElem?_getD, w1, Option.getD_some] at w3
    refine zKx.ret w1 w2 w3 (hl.2 _ (List.mem_singleton.mpr rfl) _ h X Y ⟨ty, ρ, a1, a2, a3, a4, a5, a6, a7, ⟨b1, by rw [b2], b3, ?_, b5⟩, a11, a12⟩)
    rcases hv with ⟨rfl, rfl⟩ | ⟨x, u, rfl, rfl, hx⟩
    · exact b4
    · exact ⟨hx, b4⟩
noncomputable def zt_ret (ct : zCt) (M : zMi) (i : zI) (env : List zEn) (me : List zMe) (stk : List Nat) (fs : List zAf) (X Y : Nat) : Option (List zSt) := match i.1, stk with
  | 50, [x] => if (zav env x).1 = 0 ∧ (M.2.2.2.2.1 = some .int ∨ (M.2.2.2.2.1 = some .boolean ∧ 0 ≤ (zav env x).2.1 ∧ (zav env x).2.2 ≤ 1)) then zt_rk ct env me fs X Y (some x) else none
  | 51, [x] => if (zav env x).1 = 1 then zt_rk ct env me fs X Y (some x) else none
  | 52, [x] => if zisR (zav env x) = true then zt_rk ct env me fs X Y (some x) else none
  | 53, [] => zt_rk ct env me fs X Y none
  | _, _ => none
theorem zt_ret_ok (hM : z_ms[j]? = some M) (hC : z_cs[j]? = some cs) (hH : z_hs[j]? = some hs) (hi : cs[k]? = some i) (a1 : zRx ρ0 ρ) (a2 : zExt ty0 ty) (a3 : zTY tt ty h) (a4 : Ex ty h) (a5 : zFm (zcM ct) ty0 h0 h) (a6 : zEv ty ρ env) (a7 : zMm h ρ me) (a9 : zSk ρ stk st) (a10 : zFs ρ fs cfs) (a11 : X ≤ X9) (a12 : Y ≤ Y9)
    (hq : zt_ret ct M i env me stk fs X9 Y9 = some l) (hl : zTo tt Ex ct ty0 h0 ρ0 sx d0 Φ l) : zGo sx d0 Φ ((j, k, lo, st) :: cfs) h X Y := by
  unfold zt_ret at hq
  split at hq
  · next x hi1 =>
    match st, a9 with
    | [v], a9 =>
    split at hq
    case isFalse => cases hq
    next hc =>
    obtain ⟨u, rfl, u1, u2⟩ := zG0 (a6.at a9.1) hc.1
    have hfin : z_fin M i (d0 - cfs.length) [.int u] = some (.inl (some (.int u)), 0, 0) := by
      rw [z_fin50 hi1]
      rcases hc.2 with e | ⟨e, e1, e2⟩
      · rw [e]
        exact if_pos rfl
      · rw [e]
        have hx : u.toInt = 0 ∨ u.toInt = 1 := by omega
        have : u = 0 ∨ u = 1 := hx.imp (fun e => Int32.toInt_inj.mp (by rw [e]; rfl)) (fun e => Int32.toInt_inj.mp (by rw [e]; rfl))
        rcases this with rfl | rfl
        · exact if_pos rfl
        · exact if_pos rfl
    refine zGo.fin hM hC hH hi hfin ?_
    rw [Nat.zero_add, Nat.zero_add]
    exact zt_rk_ok (Or.inr ⟨x, _, rfl, rfl, a9.1⟩) a1 a2 a3 a4 a5 a6 a7 a10 a11 a12 hq hl
  · next x hi1 =>
    match st, a9 with
    | [v], a9 =>
    split at hq
    case isFalse => cases hq
    next hc =>
    obtain ⟨u, rfl, u1, u2⟩ := zG1 (a6.at a9.1) hc
    refine zGo.fin hM hC hH hi (o := .inl (some (.long u))) (x := 0) (y := 0) (by unfold z_fin; rw [hi1]; rfl) ?_
    rw [Nat.zero_add, Nat.zero_add]
    exact zt_rk_ok (Or.inr ⟨x, _, rfl, rfl, a9.1⟩) a1 a2 a3 a4 a5 a6 a7 a10 a11 a12 hq hl
  · next x hi1 =>
    match st, a9 with
    | [v], a9 =>
    split at hq
    case isFalse => cases hq
    next hc =>
    obtain ⟨u, rfl⟩ := zGr (a6.at a9.1) hc
    refine zGo.fin hM hC hH hi (o := .inl (some (.ref u))) (x := 0) (y := 0) (by unfold z_fin; rw [hi1]; rfl) ?_
    rw [Nat.zero_add, Nat.zero_add]
    exact zt_rk_ok (Or.inr ⟨x, _, rfl, rfl, a9.1⟩) a1 a2 a3 a4 a5 a6 a7 a10 a11 a12 hq hl
  · next hi1 =>
    match st, a9 with
    | [], a9 =>
    refine zGo.fin hM hC hH hi (o := .inl none) (x := 0) (y := 0) (by unfold z_fin; rw [hi1]; rfl) ?_
    rw [Nat.zero_add, Nat.zero_add]
    exact zt_rk_ok (Or.inl ⟨rfl, rfl⟩) a1 a2 a3 a4 a5 a6 a7 a10 a11 a12 hq hl
  · cases hq
/-! throws -/
noncomputable def zt_un (ct : zCt) (env : List zEn) (me : List zMe) (X Y E : Nat) : List zAf → Option (List zSt)
  | [] => if E ∈ zcE ct ∧ X ≤ (zcK ct).2.2.1 ∧ Y ≤ (zcK ct).2.2.2 then some [] else none
  | f :: fs => match zlku (zlkd z_cs f.1 []) f.2.1, zlku z_hs f.1 with
    | some i, some hs => if i.1 = 54 then (match hs.find? (fun q => q.2.2.2.2.1 == E) with
      | some q => some [(env, me, (f.1, q.2.2.2.2.2.1, zdrop env f.2.2.1 q.2.2.2.2.2.2, []) :: fs, X, Y)]
      | none => if hs.isEmpty = true then zt_un ct env me X Y E fs else none) else none
    | _, _ => none
theorem zt_un_ok {E : Nat} (a1 : zRx ρ0 ρ) (a2 : zExt ty0 ty) (a3 : zTY tt ty h) (a4 : Ex ty h) (a5 : zFm (zcM ct) ty0 h0 h) (a6 : zEv ty ρ env) (a7 : zMm h ρ me) (a11 : X ≤ X9) (a12 : Y ≤ Y9) (hl : zTo tt Ex ct ty0 h0 ρ0 sx d0 Φ l) : ∀ (fs : List zAf) (cfs : List zCf), zFs ρ fs cfs → zt_un ct env me X9 Y9 E fs = some l → zKx sx d0 Φ cfs (.inr E) h X Y
  | [], [], _, hq => by
    rw [zt_un] at hq
    split at hq
    case isFalse => cases hq
    next hc =>
    exact hl.1 _ _ _ _ ⟨ty, a2, a3, a4, a5, hc.1, Nat.le_trans a11 hc.2.1, Nat.le_trans a12 hc.2.2⟩
  | f :: fs, c :: cfs, hf, hq => by
    rw [zt_un] at hq
    obtain ⟨b1, b2, b3, b4, b5⟩ := hf
    obtain ⟨cj, ck, clo, cst⟩ := c
    dsimp only at b1 b2 b3 b4
    simp only [zlku_eq, zlkd_eq] at hq
    split at hq
    case h_2 => cases hq
    next i hs hi hh =>
    rw [b1, b2] at hi
    rw [b1] at hh
    cases hC : z_cs[cj]? with
    | none => rw [List.getD_eq_getElem?_getD, hC] at hi; simp at hi
    | some cs =>
    rw [List.getD_eq_getElem?_getD, hC, Option.getD_some] at hi
    split at hq
    case isFalse => cases hq
    next h54 =>
    split at hq
    · next q hfd =>
      cases hq
      refine zKx.caught hC hh hi h54 hfd (hl.2 _ (List.mem_singleton.mpr rfl) _ h X Y ⟨ty, ρ, a1, a2, a3, a4, a5, a6, a7, ⟨b1, rfl, zdrop_ok a6 b3, trivial, b5⟩, a11, a12⟩)
    · split at hq
      case isFalse => cases hq
      next he =>
      have he2 : hs = [] := List.isEmpty_iff.mp he
      subst he2
      exact zKx.out hC hh hi h54 (zt_un_ok a1 a2 a3 a4 a5 a6 a7 a11 a12 hl fs cfs b5 hq)
noncomputable def zt_thr (ct : zCt) (i : zI) (env : List zEn) (me : List zMe) (stk : List Nat) (fs : List zAf) (X Y : Nat) : Option (List zSt) := if i.1 = 62 ∧ 6 ≤ zcD ct - fs.length ∧ zct env stk ≤ 8 then zt_un ct env me (X + 1) (Y + 6) i.2.1 fs else none
theorem zt_thr_ok (hd : zcD ct ≤ d0) (hM : z_ms[j]? = some M) (hC : z_cs[j]? = some cs) (hH : z_hs[j]? = some hs) (hi : cs[k]? = some i) (a1 : zRx ρ0 ρ) (a2 : zExt ty0 ty) (a3 : zTY tt ty h) (a4 : Ex ty h) (a5 : zFm (zcM ct) ty0 h0 h) (a6 : zEv ty ρ env) (a7 : zMm h ρ me) (a9 : zSk ρ stk st) (a10 : zFs ρ fs cfs) (a11 : X ≤ X9) (a12 : Y ≤ Y9)
    (hq : zt_thr ct i env me stk fs X9 Y9 = some l) (hl : zTo tt Ex ct ty0 h0 ρ0 sx d0 Φ l) : zGo sx d0 Φ ((j, k, lo, st) :: cfs) h X Y := by
  unfold zt_thr at hq
  split at hq
  case isFalse => cases hq
  next hc =>
  refine zGo.fin hM hC hH hi (o := .inr i.2.1) (x := 1) (y := 6) ?_ (zt_un_ok (X := 1 + X) (Y := 6 + Y) a1 a2 a3 a4 a5 a6 a7 (by omega) (by omega) hl fs cfs a10 hq)
  rw [z_fin62 hc.1]
  exact if_pos ⟨by rw [a10.len]; omega, by rw [zct_ok a6 a9]; exact hc.2.2⟩
end ZCTL
end
section
/-! calls: by a contract, or the callee's frame on top -/
noncomputable def zargs (env : List zEn) : Nat → List Nat → zLs
  | _, [] => []
  | p, i :: is => (p, i) :: zargs env (if (zav env i).1 = 1 then p + 2 else p + 1) is
theorem zargs_ge {env : List zEn} : ∀ {is : List Nat} {p : Nat} {q : Nat × Nat}, q ∈ zargs env p is → p ≤ q.1
  | [], _, _, h => by cases h
  | i :: is, p, q, h => by
    rcases List.mem_cons.mp h with rfl | h
    · exact Nat.le_refl _
    · have := zargs_ge h
      split at this <;> omega
theorem zargs_ok {ty : List Nat} {ρ : List Value} {env : List zEn} (E : zEv ty ρ env) : ∀ {is : List Nat} {vs : List Value} (p : Nat), zSk ρ is vs → zLo ρ (zargs env p is) (lv_args p vs)
  | [], [], _, _ => fun q h => by cases h
  | i :: is, v :: vs, p, h => by
    intro q hq
    have hc := zGcat (E.at h.1)
    have e : (if v.category = 2 then p + 2 else p + 1) = (if (zav env i).1 = 1 then p + 2 else p + 1) := by
      rw [hc]
      by_cases h1 : (zav env i).1 = 1
      · rw [if_pos h1, if_pos rfl, if_pos h1]
      · rw [if_neg h1, if_neg (by decide), if_neg h1]
    rw [show lv_args p (v :: vs) = (p, v) :: lv_args (if v.category = 2 then p + 2 else p + 1) vs from rfl, e]
    rcases List.mem_cons.mp hq with rfl | hq
    · exact ⟨v, h.1, zget_self⟩
    · obtain ⟨w, h1, h2⟩ := zargs_ok E (if (zav env i).1 = 1 then p + 2 else p + 1) h.2 q hq
      refine ⟨w, h1, zget_cons h2 ?_⟩
      have := zargs_ge hq
      split at this <;> omega
noncomputable def zles (env : List zEn) : List Nat → List zA → Bool
  | [], [] => true
  | i :: is, a :: as => zLe (zav env i) a && zles env is as
  | _, _ => false
theorem zles_ok {ty : List Nat} {ρ : List Value} {env : List zEn} (E : zEv ty ρ env) : ∀ {is : List Nat} {vs : List Value} {as : List zA}, zSk ρ is vs → zles env is as = true → zAg ty as vs
  | [], [], [], _, _ => trivial
  | [], [], _ :: _, _, h => by cases h
  | _ :: _, _ :: _, [], _, h => by cases h
  | i :: is, v :: vs, a :: as, h, h2 => by
    rw [zles, Bool.and_eq_true] at h2
    exact ⟨zLe_ok h2.1 (E.at h.1), zles_ok E h.2 h2.2⟩
theorem zlgl : ∀ vs : List Value, (lg_sl vs).length = z_cat vs
  | [] => rfl
  | v :: vs => by
    have ih := zlgl vs
    unfold lg_sl z_cat at ih ⊢
    rw [List.flatMap_cons, List.length_append, ih, List.map_cons, List.sum_cons]
    cases v <;> rfl
noncomputable def zkps (env : List zEn) (ms : List zMod) (m : zMe) : Bool := ms.all (fun x => zkp env (x.1 : Int) (x.1 : Int) x.2.1 x.2.2 m)
/-- what the memo holds behind a call -/
theorem zMm.call {tt : Nat → zTy} {ty ty' : List Nat} {ρ : List Value} {env : List zEn} {me : List zMe} {h h' : zH} {ms : List zMod} (T : zTY tt ty h) (E : zEv ty ρ env) (Mm : zMm h ρ me) (F : zFm ms ty h h') : zMm h' ρ (me.filter (zkps env ms)) := by
  intro m hm
  obtain ⟨hm1, hm2⟩ := List.mem_filter.mp hm
  obtain ⟨a, e, i, v, k1, k2, k3, k4, k5⟩ := Mm m hm1
  have hl := (List.getElem?_eq_some_iff.mp k2).1
  have hl2 : a < h'.length := Nat.lt_of_lt_of_le hl F.1
  have hlt : a < ty.length := by rw [T.1]; exact hl
  have ht : ty[a]? = some ty[a] := List.getElem?_eq_getElem hlt
  have he' : h'[a]? = some h'[a] := List.getElem?_eq_getElem hl2
  refine ⟨a, h'[a], i, v, k1, he', k3, ?_, k5⟩
  rw [F.2 a ty[a] e h'[a] ht k2 he' i (fun hin => ?_)]
  · exact k4
  · obtain ⟨x, hx, x1, x2, x3⟩ := hin
    rcases zkp_ok E (List.all_eq_true.mp hm2 x hx) k1 k3 with z | z
    · exact z ty[a] ht ⟨by omega, by omega⟩
    · exact z ⟨x2, x3⟩
noncomputable def zpick (env : List zEn) (cts : List zCt) (own : Nat) (as : List Nat) : List Nat → Option zCt
  | [] => none
  | c :: cs => match zlku cts c with
    | some c' => if c < own ∧ zles env as (zcA c') = true then some c' else zpick env cts own as cs
    | none => zpick env cts own as cs
theorem zpick_ok {env : List zEn} {cts : List zCt} {own : Nat} {as : List Nat} {c' : zCt} : ∀ {l : List Nat}, zpick env cts own as l = some c' → (∃ c, c < own ∧ cts[c]? = some c') ∧ zles env as (zcA c') = true
  | [], h => by cases h
  | c :: cs, h => by
    rw [zpick, zlku_eq] at h
    split at h
    · next c9 hc =>
      split at h
      · next hh => cases h; exact ⟨⟨c, hh.1, hc⟩, hh.2⟩
      · exact zpick_ok h
    · exact zpick_ok h
noncomputable def zt_ex (ct : zCt) (env : List zEn) (me : List zMe) (X Y : Nat) (fs : List zAf) : List Nat → Option (List zSt)
  | [] => some []
  | E :: Es => match zt_un ct env me X Y E fs, zt_ex ct env me X Y fs Es with
    | some a, some b => some (a ++ b)
    | _, _ => none
theorem zt_ex_at {ct : zCt} {env : List zEn} {me : List zMe} {X Y : Nat} {fs : List zAf} {E : Nat} : ∀ {Es : List Nat} {l : List zSt}, zt_ex ct env me X Y fs Es = some l → E ∈ Es → ∃ l', zt_un ct env me X Y E fs = some l' ∧ ∀ s ∈ l', s ∈ l
  | [], _, _, h => by cases h
  | E0 :: Es, l, h, hE => by
    rw [zt_ex] at h
    split at h
    case h_2 => cases h
    next a b ha hb =>
    cases h
    rcases List.mem_cons.mp hE with rfl | hE
    · exact ⟨a, ha, fun s hs => List.mem_append_left _ hs⟩
    · obtain ⟨l', h1, h2⟩ := zt_ex_at hb hE
      exact ⟨l', h1, fun s hs => List.mem_append_right _ (h2 s hs)⟩
noncomputable def zt_cn (c' : zCt) (env : List zEn) (me : List zMe) (j k : Nat) (loc : zLs) (rest : List Nat) (fs : List zAf) (X Y : Nat) : zSt := match zcR c' with
  | [] => (env, me, (j, k + 1, loc, rest) :: fs, X, Y)
  | a :: _ => (zsn env (a, 0, 0), me, (j, k + 1, loc, zln env :: rest) :: fs, X, Y)
noncomputable def zt_cw (cts : List zCt) (cand : List (List Nat)) (own : Nat) (ct : zCt) (a : Nat) (env : List zEn) (me : List zMe) (j k : Nat) (loc : zLs) (as rest : List Nat) (fs : List zAf) (X Y : Nat) : Option (List zSt) := match zlku z_ms a with
  | none => none
  | some M' => if zct env as ≤ M'.2.2.2.1 ∧ zct env rest ≤ 8 ∧ 1 ≤ zcD ct - fs.length then (match zpick env cts own as (zlkd cand a []) with
    | some c' => if zcJ c' = a ∧ zcD c' + 1 ≤ zcD ct - fs.length ∧ (zcM c').all (fun m => zcv (zcM ct) m.1 m.2.1 m.2.2) = true then (match zt_ex ct env (me.filter (zkps env (zcM c'))) (X + (zcK c').2.2.1) (Y + (zcK c').2.2.2) ((j, k, loc, rest) :: fs) (zcE c') with
      | some ls => some (zt_cn c' env (me.filter (zkps env (zcM c'))) j k loc rest fs (X + (zcK c').1) (Y + (zcK c').2.1) :: ls)
      | none => none) else none
    | none => some [(env, me, (a, 0, zargs env 0 as, []) :: (j, k, loc, rest) :: fs, X, Y)]) else none
section ZCALL
variable {tt : Nat → zTy} {Ex : List Nat → zH → Prop} {cts : List zCt} {cand : List (List Nat)} {own : Nat} {ct : zCt} {ty0 : List Nat} {h0 : zH} {ρ0 : List Value} {sx : zX} {d0 : Nat} {j k : Nat} {loc : zLs} {stk : List Nat} {fs : List zAf} {X9 Y9 X Y : Nat} {env : List zEn} {me : List zMe} {lo : zL} {st : List Value} {cfs : List zCf} {h : zH} {ty : List Nat} {ρ : List Value} {M : zMi} {cs : List zI} {hs : List zHd} {i : zI} {l : List zSt} {Φ : zO → zH → Nat → Nat → Prop}
theorem zt_cw_ok {as rest : List Nat} {asv restv : List Value} (hd : zcD ct ≤ d0) (hcts : ∀ c, c < own → ∀ c', cts[c]? = some c' → zVd tt Ex c') (hM : z_ms[j]? = some M) (hC : z_cs[j]? = some cs) (hH : z_hs[j]? = some hs) (hi : cs[k]? = some i) (hop : i.1 = 54 ∨ i.1 = 55 ∨ i.1 = 72) (a1 : zRx ρ0 ρ) (a2 : zExt ty0 ty) (a3 : zTY tt ty h) (a4 : Ex ty h) (a5 : zFm (zcM ct) ty0 h0 h) (a6 : zEv ty ρ env) (a7 : zMm h ρ me) (a8 : zLo ρ loc lo) (a10 : zFs ρ fs cfs) (a11 : X ≤ X9) (a12 : Y ≤ Y9)
    (b1 : zSk ρ as asv) (b2 : zSk ρ rest restv) (hcal : ∀ M', z_ms[i.2.1]? = some M' → 1 ≤ d0 - cfs.length → z_cat restv ≤ 8 → (lg_sl asv).length ≤ M'.2.2.2.1 → z_cal i (d0 - cfs.length) st h = some (i.2.1, asv, restv))
    (hq : zt_cw cts cand own ct i.2.1 env me j k loc as rest fs X9 Y9 = some l) (hl : zTo tt Ex ct ty0 h0 ρ0 sx d0 Φ l) : zGo sx d0 Φ ((j, k, lo, st) :: cfs) h X Y := by
  unfold zt_cw at hq
  rw [zlku_eq] at hq
  split at hq
  case h_1 => cases hq
  next M' hM' =>
  split at hq
  case isFalse => cases hq
  next hc =>
  have hlen := a10.len
  have hz := hcal M' hM' (by rw [hlen]; omega) (by rw [zct_ok a6 b2]; exact hc.2.1) (by rw [zlgl, zct_ok a6 b1]; exact hc.1)
  refine zGo.call hM hC hH hi (by omega) hz ?_
  split at hq
  · next c' hp =>
    split at hq
    case isFalse => cases hq
    next hcc =>
    split at hq
    case h_2 => cases hq
    next ls hls =>
    cases hq
    obtain ⟨⟨cn, hcn, hc9⟩, hles⟩ := zpick_ok hp
    have hv := hcts cn hcn c' hc9 sx (d0 - (cfs.length + 1)) ty h asv (by omega) a3 a4 (zles_ok a6 b1 hles)
    rw [hcc.1] at hv
    refine z_ok.imp hv (fun o h' x y hpo => ?_)
    obtain ⟨ty', p1, p2, p3, p4, p5⟩ := hpo
    have hcov : zFm (zcM ct) ty h h' := p4.mono (fun t n hin => by
      obtain ⟨m, hm, m1, m2, m3⟩ := hin
      have := zcv_ok (List.all_eq_true.mp hcc.2.2 m hm) m2 m3
      rw [← m1]
      exact this)
    have hmem : zMm h' ρ (me.filter (zkps env (zcM c'))) := zMm.call (ty' := ty') a3 a6 a7 p4
    cases o with
    | inl v =>
      obtain ⟨q1, q2, q3⟩ := p5
      refine zKx.ret hC hH hi ?_
      have hs9 := hl.2 _ List.mem_cons_self
      unfold zt_cn at hs9
      simp only [zsn_eq, zln_eq] at hs9
      cases hret : zcR c' with
      | nil =>
        rw [hret] at q1 hs9
        cases v with
        | some w => exact q1.elim
        | none => exact hs9 _ h' (x + X) (y + Y) ⟨ty', ρ, a1, a2.tr p1, p2, p3, a5.tr a2 hcov, a6.ext p1, hmem, ⟨rfl, rfl, a8, b2, a10⟩, by show x + X ≤ X9 + (zcK c').1; omega, by show y + Y ≤ Y9 + (zcK c').2.1; omega⟩
      | cons r rs =>
        rw [hret] at q1 hs9
        cases v with
        | none => cases rs <;> exact q1.elim
        | some w =>
        have gw : zG ty' r w := by
          cases rs with
          | nil => exact q1
          | cons _ _ => exact q1.elim
        exact hs9 _ h' (x + X) (y + Y) ⟨ty', ρ ++ [w], a1.tr zRx.app, a2.tr p1, p2, p3, a5.tr a2 hcov, (a6.ext p1).push0 gw, hmem.mono zRx.app, ⟨rfl, rfl, a8.mono zRx.app, ⟨a6.new w, b2.mono zRx.app⟩, a10.mono zRx.app⟩, by show x + X ≤ X9 + (zcK c').1; omega, by show y + Y ≤ Y9 + (zcK c').2.1; omega⟩
    | inr E =>
      obtain ⟨q1, q2, q3⟩ := p5
      obtain ⟨l', g1, g2⟩ := zt_ex_at hls q1
      exact zt_un_ok (ty := ty') (X := x + X) (Y := y + Y) a1 (a2.tr p1) p2 p3 (a5.tr a2 hcov) (a6.ext p1) hmem (by omega) (by omega) ⟨hl.1, fun s hs => hl.2 s (List.mem_cons_of_mem _ (g2 s hs))⟩ ((j, k, loc, rest) :: fs) ((j, k, lo, restv) :: cfs) ⟨rfl, rfl, a8, b2, a10⟩ g1
  · cases hq
    exact hl.2 _ (List.mem_singleton.mpr rfl) _ h X Y ⟨ty, ρ, a1, a2, a3, a4, a5, a6, a7, ⟨rfl, rfl, zargs_ok a6 0 b1, trivial, rfl, rfl, a8, b2, a10⟩, a11, a12⟩
noncomputable def zt_call (tt : Nat → zTy) (cts : List zCt) (cand : List (List Nat)) (own : Nat) (ct : zCt) (i : zI) (env : List zEn) (me : List zMe) (j k : Nat) (loc : zLs) (stk : List Nat) (fs : List zAf) (X Y : Nat) : Option (List zSt) :=
  if stk.length < i.2.2.1 then none else if i.1 = 54 then (match stk.drop i.2.2.1 with
    | r :: rest => if (zav env r).1 = 2 ∧ 0 ≤ (zav env r).2.1 ∧ (ztl (zav env r).2.1 (zav env r).2.2).all (fun t => decide ((tt t).1 = 0) && decide (((tt t).2.1 : Int) = i.2.2.2)) = true then zt_cw cts cand own ct i.2.1 env me j k loc (r :: (stk.take i.2.2.1).reverse) rest fs X Y else none
    | [] => none) else if i.1 = 55 ∨ i.1 = 72 then zt_cw cts cand own ct i.2.1 env me j k loc (stk.take i.2.2.1).reverse (stk.drop i.2.2.1) fs X Y else none
theorem z_cal0_54 {i : zI} {d : Nat} {st : List Value} {h : zH} (hi : i.1 = 54) : z_cal0 i d st h = if d = 0 ∨ st.length < i.2.2.1 then none else (match st.drop i.2.2.1 with
    | .ref r :: rest => (match h[r]? with
      | some (.inr (c, _)) => if (c : Int) = i.2.2.2 ∧ z_cat rest ≤ 8 then some (i.2.1, .ref r :: (st.take i.2.2.1).reverse, rest) else none
      | _ => none)
    | _ => none) := by
  unfold z_cal0
  rw [hi]
  all_goals rfl
theorem z_cal0_55 {i : zI} {d : Nat} {st : List Value} {h : zH} (hi : i.1 = 55 ∨ i.1 = 72) : z_cal0 i d st h = if d = 0 ∨ st.length < i.2.2.1 then none else if z_cat (st.drop i.2.2.1) ≤ 8 then some (i.2.1, (st.take i.2.2.1).reverse, st.drop i.2.2.1) else none := by
  unfold z_cal0
  rcases hi with hi | hi <;> rw [hi]
  all_goals rfl
theorem zt_call_ok (hd : zcD ct ≤ d0) (hcts : ∀ c, c < own → ∀ c', cts[c]? = some c' → zVd tt Ex c') (hM : z_ms[j]? = some M) (hC : z_cs[j]? = some cs) (hH : z_hs[j]? = some hs) (hi : cs[k]? = some i) (a1 : zRx ρ0 ρ) (a2 : zExt ty0 ty) (a3 : zTY tt ty h) (a4 : Ex ty h) (a5 : zFm (zcM ct) ty0 h0 h) (a6 : zEv ty ρ env) (a7 : zMm h ρ me) (a8 : zLo ρ loc lo) (a9 : zSk ρ stk st) (a10 : zFs ρ fs cfs) (a11 : X ≤ X9) (a12 : Y ≤ Y9)
    (hq : zt_call tt cts cand own ct i env me j k loc stk fs X9 Y9 = some l) (hl : zTo tt Ex ct ty0 h0 ρ0 sx d0 Φ l) : zGo sx d0 Φ ((j, k, lo, st) :: cfs) h X Y := by
  unfold zt_call at hq
  split at hq
  case isTrue => cases hq
  next hlen =>
  have hsl := a9.len
  split at hq
  · next h54 =>
    split at hq
    case h_2 => cases hq
    next r rest hdr =>
    split at hq
    case isFalse => cases hq
    next hc =>
    have hdrop := a9.drop i.2.2.1
    rw [hdr] at hdrop
    cases hdv : st.drop i.2.2.1 with
    | nil => rw [hdv] at hdrop; exact hdrop.elim
    | cons vr restv =>
    rw [hdv] at hdrop
    obtain ⟨ad, t, rfl, ht, t1, t2⟩ := zG2 (a6.at hdrop.1) hc.1
    have hl0 : ad < h.length := by rw [← a3.1]; exact (List.getElem?_eq_some_iff.mp ht).1
    have he : h[ad]? = some h[ad] := List.getElem?_eq_getElem hl0
    have hty := List.all_eq_true.mp hc.2.2 t (ztl_mem hc.2.1 t1 t2)
    rw [Bool.and_eq_true, decide_eq_true_eq, decide_eq_true_eq] at hty
    obtain ⟨fs9, hfs, -⟩ := zsh0 (a3.2.2 ad t _ ht he).1 hty.1
    refine zt_cw_ok (as := r :: (stk.take i.2.2.1).reverse) (asv := .ref ad :: (st.take i.2.2.1).reverse) (restv := restv) hd hcts hM hC hH hi (Or.inl h54) a1 a2 a3 a4 a5 a6 a7 a8 a10 a11 a12 ⟨hdrop.1, (a9.take i.2.2.1).rev⟩ hdrop.2 (fun M' hM' c1 c2 c3 => ?_) hq hl
    unfold z_cal
    have hcal0 : z_cal0 i (d0 - cfs.length) st h = some (i.2.1, .ref ad :: (st.take i.2.2.1).reverse, restv) := by
      rw [z_cal0_54 h54, if_neg (by omega), hdv]
      dsimp only
      rw [he, hfs]
      exact if_pos ⟨hty.2, c2⟩
    rw [hcal0]
    dsimp only
    rw [hM']
    exact if_pos c3
  · split at hq
    case isFalse => cases hq
    next h55 =>
    refine zt_cw_ok (asv := (st.take i.2.2.1).reverse) (restv := st.drop i.2.2.1) hd hcts hM hC hH hi (Or.inr h55) a1 a2 a3 a4 a5 a6 a7 a8 a10 a11 a12 (a9.take i.2.2.1).rev (a9.drop i.2.2.1) (fun M' hM' c1 c2 c3 => ?_) hq hl
    unfold z_cal
    have hcal0 : z_cal0 i (d0 - cfs.length) st h = some (i.2.1, (st.take i.2.2.1).reverse, st.drop i.2.2.1) := by
      rw [z_cal0_55 h55, if_neg (by omega)]
      exact if_pos c2
    rw [hcal0]
    dsimp only
    rw [hM']
    exact if_pos c3
/-! one step of the checker -/
noncomputable def zstep (tt : Nat → zTy) (cts : List zCt) (cand : List (List Nat)) (own : Nat) (ct : zCt) (s : zSt) : Option (List zSt) := match s.2.2.1 with
  | [] => none
  | f :: fs => match z_ms[f.1]?, z_cs[f.1]?, z_hs[f.1]? with
    | some M, some cs, some _ => (match cs[f.2.1]? with
      | none => none
      | some i => if i.1 = 54 ∨ i.1 = 55 ∨ i.1 = 72 then zt_call tt cts cand own ct i s.1 s.2.1 f.1 f.2.1 f.2.2.1 f.2.2.2 fs s.2.2.2.1 s.2.2.2.2
        else if 30 ≤ i.1 ∧ i.1 ≤ 33 then zt_if i s.1 s.2.1 f.1 f.2.1 f.2.2.1 f.2.2.2 fs s.2.2.2.1 s.2.2.2.2
        else if i.1 = 35 ∨ i.1 = 36 then zt_sw i s.1 s.2.1 f.1 f.2.2.1 f.2.2.2 fs s.2.2.2.1 s.2.2.2.2
        else if 50 ≤ i.1 ∧ i.1 ≤ 53 then zt_ret ct M i s.1 s.2.1 f.2.2.2 fs s.2.2.2.1 s.2.2.2.2
        else if i.1 = 62 then zt_thr ct i s.1 s.2.1 f.2.2.2 fs s.2.2.2.1 s.2.2.2.2
        else zt_op tt ct i s.1 s.2.1 f.1 f.2.1 f.2.2.1 f.2.2.2 fs s.2.2.2.1 s.2.2.2.2)
    | _, _, _ => none
theorem zstep_ok {s : zSt} {cf : List zCf} (hst : zStable tt Ex (zcM ct)) (hd : zcD ct ≤ d0) (hcts : ∀ c, c < own → ∀ c', cts[c]? = some c' → zVd tt Ex c') (R : zRl tt Ex ct ty0 h0 ρ0 s cf h X Y) (hq : zstep tt cts cand own ct s = some l) (hl : zTo tt Ex ct ty0 h0 ρ0 sx d0 Φ l) : zGo sx d0 Φ cf h X Y := by
  obtain ⟨ty, ρ, a1, a2, a3, a4, a5, a6, a7, a10, a11, a12⟩ := R
  unfold zstep at hq
  split at hq
  case h_1 => cases hq
  next f fs hfr =>
  rw [hfr] at a10
  match cf, a10 with
  | (j, k, lo, st) :: cfs, a10 =>
  obtain ⟨b1, b2, a8, a9, a10⟩ := a10
  dsimp only at b1 b2 a8 a9
  rw [b1, b2] at hq
  split at hq
  case h_2 => cases hq
  next M cs hs hM hC hH =>
  split at hq
  case h_1 => cases hq
  next i hi =>
  split at hq
  · exact zt_call_ok hd hcts hM hC hH hi a1 a2 a3 a4 a5 a6 a7 a8 a9 a10 a11 a12 hq hl
  · split at hq
    · exact zt_if_ok hM hC hH hi a1 a2 a3 a4 a5 a6 a7 a8 a9 a10 a11 a12 hq hl
    · split at hq
      · exact zt_sw_ok hM hC hH hi a1 a2 a3 a4 a5 a6 a7 a8 a9 a10 a11 a12 hq hl
      · split at hq
        · exact zt_ret_ok hM hC hH hi a1 a2 a3 a4 a5 a6 a7 a9 a10 a11 a12 hq hl
        · split at hq
          · exact zt_thr_ok hd hM hC hH hi a1 a2 a3 a4 a5 a6 a7 a9 a10 a11 a12 hq hl
          · exact zt_op_ok hst hd hM hC hH hi a1 a2 a3 a4 a5 a6 a7 a8 a9 a10 a11 a12 hq hl
end ZCALL
end
section
/-! cut points: what holds there, and that something falls -/
abbrev zRk : Type := Nat × Nat × Int × Int
noncomputable def zc_env (c : zCut) : List zEn := c.2.1.map (fun p => (p.2, 0, 0)) ++ c.2.2.1.map (fun m => (m.2.2, 0, 0))
noncomputable def zc_loc0 : Nat → List (Nat × zA) → zLs
  | _, [] => []
  | n, p :: ps => (p.1, n) :: zc_loc0 (n + 1) ps
noncomputable def zc_loc (c : zCut) : zLs := zc_loc0 0 c.2.1
noncomputable def zc_me0 (loc : zLs) : Nat → List (Nat × Int × zA) → List zMe
  | _, [] => []
  | n, m :: ms => (match zlk loc m.1 with
    | some r => (r, 0, m.2.1, n) :: zc_me0 loc (n + 1) ms
    | none => zc_me0 loc (n + 1) ms)
noncomputable def zc_me (c : zCut) : List zMe := zc_me0 (zc_loc c) c.2.1.length c.2.2.1
noncomputable def zVl (ty : List Nat) (lo : zL) : List (Nat × zA) → List Value → Prop
  | [], [] => True
  | p :: ps, v :: vs => z_get lo p.1 = some v ∧ zG ty p.2 v ∧ zVl ty lo ps vs
  | _, _ => False
noncomputable def zVm (ty : List Nat) (lo : zL) (h : zH) : List (Nat × Int × zA) → List Value → Prop
  | [], [] => True
  | m :: ms, v :: vs => (∃ (a : Nat) (e : zE) (i : Nat), z_get lo m.1 = some (.ref a) ∧ h[a]? = some e ∧ m.2.1 = (i : Int) ∧ z_rd e i = some v) ∧ zG ty m.2.2 v ∧ zVm ty lo h ms vs
  | _, _ => False
theorem zVl.len {ty : List Nat} {lo : zL} : ∀ {ps : List (Nat × zA)} {vs : List Value}, zVl ty lo ps vs → vs.length = ps.length
  | [], [], _ => rfl
  | _ :: _, _ :: _, h => by rw [List.length_cons, List.length_cons, zVl.len h.2.2]
theorem zVm.len {ty : List Nat} {lo : zL} {h : zH} : ∀ {ps : List (Nat × Int × zA)} {vs : List Value}, zVm ty lo h ps vs → vs.length = ps.length
  | [], [], _ => rfl
  | _ :: _, _ :: _, h => by rw [List.length_cons, List.length_cons, zVm.len h.2.2]
theorem zc_ev1 {ty : List Nat} {ρ : List Value} {env : List zEn} : ∀ {vs : List Value} {es : List zEn}, vs.length = es.length → (∀ (i : Nat) (v : Value) (e : zEn), vs[i]? = some v → es[i]? = some e → zG ty e.1 v ∧ e.2.1 = 0) → zEv ty ρ env → zEv ty (ρ ++ vs) (env ++ es)
  | [], [], _, _, E => by rw [List.append_nil, List.append_nil]; exact E
  | [], _ :: _, h, _, _ => by cases h
  | _ :: _, [], h, _, _ => by cases h
  | v :: vs, e :: es, hl, hg, E => by
    have h0 := hg 0 v e rfl rfl
    have E1 := E.push (e := e) (v := v) h0.1 (fun b hb => by rw [h0.2] at hb; cases hb)
    have := zc_ev1 (vs := vs) (es := es) (by simpa using hl) (fun i w f hi hf => hg (i + 1) w f (by simpa using hi) (by simpa using hf)) E1
    rw [List.append_assoc, List.append_assoc] at this
    exact this
theorem zVl.at {ty : List Nat} {lo : zL} : ∀ {ps : List (Nat × zA)} {vs : List Value}, zVl ty lo ps vs → ∀ (i : Nat) (v : Value) (p : Nat × zA), vs[i]? = some v → ps[i]? = some p → z_get lo p.1 = some v ∧ zG ty p.2 v
  | [], [], _, i, v, p, h, _ => by simp at h
  | p0 :: ps, v0 :: vs, H, 0, v, p, h1, h2 => by
    simp only [List.getElem?_cons_zero, Option.some.injEq] at h1 h2
    subst h1; subst h2
    exact ⟨H.1, H.2.1⟩
  | p0 :: ps, v0 :: vs, H, i + 1, v, p, h1, h2 => zVl.at H.2.2 i v p (by simpa using h1) (by simpa using h2)
theorem zVm.at {ty : List Nat} {lo : zL} {h : zH} : ∀ {ps : List (Nat × Int × zA)} {vs : List Value}, zVm ty lo h ps vs → ∀ (i : Nat) (v : Value) (p : Nat × Int × zA), vs[i]? = some v → ps[i]? = some p → zG ty p.2.2 v
  | [], [], _, i, v, p, h, _ => by simp at h
  | p0 :: ps, v0 :: vs, H, 0, v, p, h1, h2 => by
    simp only [List.getElem?_cons_zero, Option.some.injEq] at h1 h2
    subst h1; subst h2
    exact H.2.1
  | p0 :: ps, v0 :: vs, H, i + 1, v, p, h1, h2 => zVm.at H.2.2 i v p (by simpa using h1) (by simpa using h2)
theorem zc_ev {ty : List Nat} {lo : zL} {h : zH} {c : zCut} {vl vm : List Value} (H1 : zVl ty lo c.2.1 vl) (H2 : zVm ty lo h c.2.2.1 vm) : zEv ty (vl ++ vm) (zc_env c) := by
  have E0 : zEv ty [] [] := ⟨rfl, fun i e v h => by simp at h⟩
  have E1 := zc_ev1 (ty := ty) (ρ := []) (env := []) (vs := vl) (es := c.2.1.map (fun p => (p.2, 0, 0))) (by rw [List.length_map]; exact H1.len) (fun i v e hi he => by
    rw [List.getElem?_map] at he
    cases hp : c.2.1[i]? with
    | none => rw [hp] at he; cases he
    | some p =>
      rw [hp] at he
      cases he
      exact ⟨(H1.at i v p hi hp).2, rfl⟩) E0
  exact zc_ev1 (vs := vm) (es := c.2.2.1.map (fun m => (m.2.2, 0, 0))) (by rw [List.length_map]; exact H2.len) (fun i v e hi he => by
    rw [List.getElem?_map] at he
    cases hp : c.2.2.1[i]? with
    | none => rw [hp] at he; cases he
    | some p =>
      rw [hp] at he
      cases he
      exact ⟨H2.at i v p hi hp, rfl⟩) E1
theorem zc_lo0 {ty : List Nat} {ρ : List Value} {lo : zL} : ∀ {n : Nat} {ps : List (Nat × zA)} {vs : List Value}, zVl ty lo ps vs → (∀ (i : Nat) (v : Value), vs[i]? = some v → ρ[n + i]? = some v) → zLo ρ (zc_loc0 n ps) lo
  | _, [], [], _, _ => fun p hp => by cases hp
  | n, p0 :: ps, v0 :: vs, H, hρ => by
    intro p hp
    rcases List.mem_cons.mp hp with rfl | hp
    · exact ⟨v0, hρ 0 v0 rfl, H.1⟩
    · exact zc_lo0 H.2.2 (fun i v hi => by rw [show n + 1 + i = n + (i + 1) by omega]; exact hρ (i + 1) v (by simpa using hi)) p hp
theorem zc_mm0 {ty : List Nat} {ρ : List Value} {lo : zL} {h : zH} {loc : zLs} (L : zLo ρ loc lo) : ∀ {n : Nat} {ps : List (Nat × Int × zA)} {vs : List Value}, zVm ty lo h ps vs → (∀ (i : Nat) (v : Value), vs[i]? = some v → ρ[n + i]? = some v) → zMm h ρ (zc_me0 loc n ps)
  | _, [], [], _, _ => fun p hp => by cases hp
  | n, p0 :: ps, v0 :: vs, H, hρ => by
    have ih := zc_mm0 L (n := n + 1) H.2.2 (fun i v hi => by rw [show n + 1 + i = n + (i + 1) by omega]; exact hρ (i + 1) v (by simpa using hi))
    rw [zc_me0]
    split
    · next r hr =>
      intro m hm
      rcases List.mem_cons.mp hm with rfl | hm
      · obtain ⟨a, e, i, h1, h2, h3, h4⟩ := H.1
        obtain ⟨w, w1, w2⟩ := zlk_ok L hr
        rw [h1] at w2
        cases w2
        exact ⟨a, e, i, v0, w1, h2, h3, h4, hρ 0 v0 rfl⟩
      · exact ih m hm
    · exact ih
theorem zc_lo {ty : List Nat} {lo : zL} {c : zCut} {vl vm : List Value} (H1 : zVl ty lo c.2.1 vl) : zLo (vl ++ vm) (zc_loc c) lo := zc_lo0 H1 (fun i v hi => by rw [Nat.zero_add]; exact zRx.app i v hi)
theorem zc_mm {ty : List Nat} {lo : zL} {h : zH} {c : zCut} {vl vm : List Value} (H1 : zVl ty lo c.2.1 vl) (H2 : zVm ty lo h c.2.2.1 vm) : zMm h (vl ++ vm) (zc_me c) := zc_mm0 (zc_lo H1) H2 (fun i v hi => by
  rw [← H1.len, List.getElem?_append_right (by omega), Nat.add_sub_cancel_left]; exact hi)
/-! arriving -/
noncomputable def za_l (env : List zEn) (loc : zLs) : List (Nat × zA) → Bool
  | [] => true
  | p :: ps => (match zlk loc p.1 with
    | some i => zLe (zav env i) p.2
    | none => false) && za_l env loc ps
theorem za_l_ok {ty : List Nat} {ρ : List Value} {env : List zEn} {loc : zLs} {lo : zL} (E : zEv ty ρ env) (L : zLo ρ loc lo) : ∀ {ps : List (Nat × zA)}, za_l env loc ps = true → ∃ vl, zVl ty lo ps vl
  | [], _ => ⟨[], trivial⟩
  | p :: ps, h => by
    rw [za_l, Bool.and_eq_true] at h
    obtain ⟨vl, hv⟩ := za_l_ok E L h.2
    have h1 := h.1
    split at h1
    · next i hi =>
      obtain ⟨v, v1, v2⟩ := zlk_ok L hi
      exact ⟨v :: vl, v2, zLe_ok h1 (E.at v1), hv⟩
    · cases h1
noncomputable def za_m (tt : Nat → zTy) (env : List zEn) (me : List zMe) (loc : zLs) : List (Nat × Int × zA) → Bool
  | [] => true
  | m :: ms => (match zlk loc m.1 with
    | some r => (match zml me r 0 m.2.1 with
      | some v => zLe (zav env v) m.2.2
      | none => decide ((zav env r).1 = 2) && (decide ((zav env r).2.1 = (zav env r).2.2) && (decide (0 ≤ (zav env r).2.1) && (match zone tt 0 (tt (zav env r).2.1.toNat).2.1 m.2.1 m.2.1 (zav env r).2.1.toNat with
        | some a => zLe a m.2.2
        | none => false))))
    | none => false) && za_m tt env me loc ms
theorem za_m_ok {tt : Nat → zTy} {ty : List Nat} {ρ : List Value} {env : List zEn} {me : List zMe} {loc : zLs} {lo : zL} {h : zH} (T : zTY tt ty h) (E : zEv ty ρ env) (Mm : zMm h ρ me) (L : zLo ρ loc lo) : ∀ {ps : List (Nat × Int × zA)}, za_m tt env me loc ps = true → ∃ vm, zVm ty lo h ps vm
  | [], _ => ⟨[], trivial⟩
  | m :: ms, hq => by
    rw [za_m, Bool.and_eq_true] at hq
    obtain ⟨vm, hv⟩ := za_m_ok T E Mm L hq.2
    have h1 := hq.1
    split at h1
    case h_2 => cases h1
    next r hr =>
    obtain ⟨vr, r1, r2⟩ := zlk_ok L hr
    split at h1
    · next v hml =>
      obtain ⟨a, e, i, w, k1, k2, k3, k4, k5⟩ := Mm _ (zml_ok hml)
      dsimp only at k1 k3 k5
      rw [r1] at k1
      cases k1
      exact ⟨w :: vm, ⟨a, e, i, r2, k2, k3, k4⟩, zLe_ok h1 (E.at k5), hv⟩
    · rw [Bool.and_eq_true, Bool.and_eq_true, Bool.and_eq_true, decide_eq_true_eq, decide_eq_true_eq, decide_eq_true_eq] at h1
      obtain ⟨c1, c2, c3, c4⟩ := h1
      obtain ⟨a, t, rfl, ht, t1, t2⟩ := zG2 (E.at r1) c1
      have et : (zav env r).2.1.toNat = t := by omega
      rw [et] at c4
      split at c4
      case h_2 => cases c4
      next a9 hz =>
      unfold zone at hz
      split at hz
      case isFalse => cases hz
      next hz2 =>
      have hl : a < h.length := by rw [← T.1]; exact (List.getElem?_eq_some_iff.mp ht).1
      have he : h[a]? = some h[a] := List.getElem?_eq_getElem hl
      obtain ⟨sh, vals⟩ := T.2.2 a t h[a] ht he
      have hi : m.2.1 = ((m.2.1.toNat : Nat) : Int) := by omega
      obtain ⟨v, hv9⟩ := zsh_rd (i := m.2.1.toNat) sh (by omega) (by rw [hz2.1]; decide)
      obtain ⟨rg, m1, m2, m3, m4⟩ := zrg_ok _ _ _ _ hz m.2.1 (Int.le_refl _) (Int.le_refl _)
      exact ⟨v :: vm, ⟨a, h[a], m.2.1.toNat, r2, he, hi, hv9⟩, zLe_ok c4 (m4 ty v (vals _ v hv9 rg m1 (by omega) (by omega))), hv⟩
/-! what falls -/
noncomputable def zcv2 (lo : zL) (h : zH) (r : zRk) : Int := if r.1 ≤ 2 then (match z_get lo r.2.1 with
    | some (.int x) => x.toInt
    | _ => 0) else (match z_get lo r.2.1 with
    | some (.ref a) => (match h[a]? with
      | some e => (match z_rd e r.2.2.1.toNat with
        | some (.int x) => x.toInt
        | _ => 0)
      | none => 0)
    | _ => 0)
noncomputable def zmc (lo : zL) (h : zH) (r : zRk) : Nat := if r.1 = 0 then r.2.2.2.toNat else if r.1 = 1 ∨ r.1 = 3 then (r.2.2.2 - zcv2 lo h r).toNat else (zcv2 lo h r - r.2.2.2).toNat
noncomputable def zvid (loc : zLs) (me : List zMe) (r : zRk) : Option Nat := if r.1 ≤ 2 then zlk loc r.2.1 else (match zlk loc r.2.1 with
  | some q => zml me q 0 r.2.2.1
  | none => none)
theorem zvid_ok {ρ : List Value} {loc : zLs} {me : List zMe} {lo : zL} {h : zH} {r : zRk} {i : Nat} {x : Int32} (L : zLo ρ loc lo) (Mm : zMm h ρ me) (hv : zvid loc me r = some i) (hx : ρ[i]? = some (.int x)) : zcv2 lo h r = x.toInt := by
  unfold zvid at hv
  unfold zcv2
  split at hv
  · next h2 =>
    rw [if_pos h2]
    obtain ⟨v, v1, v2⟩ := zlk_ok L hv
    rw [hx] at v1
    cases v1
    rw [v2]
  · next h2 =>
    rw [if_neg h2]
    split at hv
    case h_2 => cases hv
    next q hq =>
    obtain ⟨v, v1, v2⟩ := zlk_ok L hq
    obtain ⟨a, e, n, w, k1, k2, k3, k4, k5⟩ := Mm _ (zml_ok hv)
    dsimp only at k1 k3 k5
    rw [v1] at k1
    cases k1
    rw [hx] at k5
    cases k5
    have e9 : r.2.2.1 = (n : Int) := k3
    rw [v2]
    dsimp only
    rw [k2]
    dsimp only
    rw [show r.2.2.1.toNat = n by omega, k4]
noncomputable def zdel (env : List zEn) (a b : Nat) : Option Int := if a = b then some 0 else (match zlku env b with
  | some e => if e.2.1 = a + 1 then some e.2.2 else none
  | none => none)
theorem zdel_ok {ty : List Nat} {ρ : List Value} {env : List zEn} {a b : Nat} {δ : Int} {x : Int32} (E : zEv ty ρ env) (hx : ρ[b]? = some (.int x)) (h : zdel env a b = some δ) : ∃ y : Int32, ρ[a]? = some (.int y) ∧ x.toInt = y.toInt + δ := by
  unfold zdel at h
  rw [zlku_eq] at h
  split at h
  · next e => cases h; subst e; exact ⟨x, hx, by omega⟩
  · split at h
    · next e he =>
      split at h
      · next hb =>
        cases h
        obtain ⟨x9, y, q1, q2, q3⟩ := (E.2 b e _ he hx).2 a hb
        cases q1
        exact ⟨y, q2, q3⟩
      · cases h
    · cases h
noncomputable def zrk (env : List zEn) (loc : zLs) (me : List zMe) (sloc : zLs) (sme : List zMe) : List zRk → List zRk → Bool
  | s :: ss, t :: ts => if s.1 = 0 ∧ t.1 = 0 then decide (0 ≤ t.2.2.2) && (decide (t.2.2.2 < s.2.2.2) || (decide (t.2.2.2 = s.2.2.2) && zrk env loc me sloc sme ss ts))
    else if s = t then (match zvid sloc sme s, zvid loc me t with
      | some a, some b => decide ((zav env b).1 = 0) && (match zdel env a b with
        | some δ => if s.1 = 1 ∨ s.1 = 3 then (decide (0 < δ) && decide ((zav env b).2.2 ≤ t.2.2.2)) || (decide (δ = 0) && zrk env loc me sloc sme ss ts) else (decide (δ < 0) && decide (t.2.2.2 ≤ (zav env b).2.1)) || (decide (δ = 0) && zrk env loc me sloc sme ss ts)
        | none => false)
      | _, _ => false) else false
  | _, _ => false
noncomputable def zlex : List Nat → List Nat → Prop
  | a :: as, b :: bs => a < b ∨ (a = b ∧ zlex as bs)
  | _, _ => False
theorem zlex_ind : ∀ (n : Nat) (P : List Nat → Prop), (∀ l, l.length = n → (∀ l', l'.length = n → zlex l' l → P l') → P l) → ∀ l, l.length = n → P l
  | 0, P, H, l, hl => H l hl (fun l' hl' h => by
    have : l' = [] := List.length_eq_zero_iff.mp hl'
    subst this
    cases h)
  | n + 1, P, H, l, hl => by
    have key : ∀ a, ∀ t : List Nat, t.length = n → P (a :: t) := by
      intro a
      induction a using Nat.strongRecOn with
      | ind a iha =>
        refine zlex_ind n (fun t => P (a :: t)) (fun t ht iht => ?_)
        refine H (a :: t) (by rw [List.length_cons, ht]) (fun l' hl' hlt => ?_)
        match l', hl', hlt with
        | b :: u, hl2, hlt2 =>
          have hu : u.length = n := by simpa using hl2
          rcases hlt2 with q | ⟨q1, q2⟩
          · exact iha b q u hu
          · rw [q1]; exact iht u hu q2
    match l, hl with
    | a :: t, hl => exact key a t (by simpa using hl)
theorem zrk_ok {ty : List Nat} {ρ ρ1 : List Value} {env : List zEn} {loc sloc : zLs} {me sme : List zMe} {lo lo1 : zL} {h h1 : zH} (E : zEv ty ρ env) (L : zLo ρ loc lo) (Mm : zMm h ρ me) (hx : zRx ρ1 ρ) (L1 : zLo ρ1 sloc lo1) (M1 : zMm h1 ρ1 sme) : ∀ {ss ts : List zRk}, (∀ s ∈ ss, ∀ a, zvid sloc sme s = some a → a < ρ1.length) → zrk env loc me sloc sme ss ts = true → zlex (ts.map (zmc lo h)) (ss.map (zmc lo1 h1))
  | [], ts, _, hq => by cases ts <;> cases hq
  | _ :: _, [], _, hq => by cases hq
  | s :: ss, t :: ts, hb, hq => by
    rw [zrk] at hq
    rw [List.map_cons, List.map_cons]
    split at hq
    · next h0 =>
      rw [Bool.and_eq_true, Bool.or_eq_true, Bool.and_eq_true, decide_eq_true_eq, decide_eq_true_eq, decide_eq_true_eq] at hq
      have e1 : zmc lo h t = t.2.2.2.toNat := by unfold zmc; rw [if_pos h0.2]
      have e2 : zmc lo1 h1 s = s.2.2.2.toNat := by unfold zmc; rw [if_pos h0.1]
      rcases hq.2 with q | ⟨q1, q2⟩
      · exact Or.inl (by rw [e1, e2]; omega)
      · exact Or.inr ⟨by rw [e1, e2, q1], zrk_ok E L Mm hx L1 M1 (fun s9 hs9 => hb s9 (List.mem_cons_of_mem _ hs9)) q2⟩
    · next h0 =>
      split at hq
      case isFalse => cases hq
      next hst =>
      subst hst
      have hs0 : s.1 ≠ 0 := fun e => h0 ⟨e, e⟩
      split at hq
      case h_2 => cases hq
      next a b ha hb9 =>
      rw [Bool.and_eq_true, decide_eq_true_eq] at hq
      obtain ⟨hz, hq⟩ := hq
      split at hq
      case h_2 => cases hq
      next δ hδ =>
      have hlt := hb s List.mem_cons_self a ha
      -- the value at the end
      obtain ⟨w, hw⟩ : ∃ w, ρ[b]? = some w := by
        unfold zvid at hb9
        split at hb9
        · obtain ⟨v, v1, -⟩ := zlk_ok L hb9; exact ⟨v, v1⟩
        · split at hb9
          · obtain ⟨a9, e9, n9, w9, -, -, -, -, k5⟩ := Mm _ (zml_ok hb9); exact ⟨w9, k5⟩
          · cases hb9
      obtain ⟨x, rfl, x1, x2⟩ := zG0 (E.at hw) hz
      obtain ⟨y, y1, y2⟩ := zdel_ok E hw hδ
      have y3 : ρ1[a]? = some (.int y) := by
        have := hx a ρ1[a] (List.getElem?_eq_getElem hlt)
        rw [y1] at this
        rw [List.getElem?_eq_getElem hlt, ← Option.some.inj this]
      have v1 := zvid_ok L Mm hb9 hw
      have v2 := zvid_ok L1 M1 ha y3
      have ih := fun q2 => zrk_ok E L Mm hx L1 M1 (ss := ss) (ts := ts) (fun s9 hs9 => hb s9 (List.mem_cons_of_mem _ hs9)) q2
      by_cases hup : s.1 = 1 ∨ s.1 = 3
      · rw [if_pos hup, Bool.or_eq_true, Bool.and_eq_true, Bool.and_eq_true, decide_eq_true_eq, decide_eq_true_eq, decide_eq_true_eq] at hq
        have e1 : zmc lo h s = (s.2.2.2 - x.toInt).toNat := by unfold zmc; rw [if_neg hs0, if_pos hup, v1]
        have e2 : zmc lo1 h1 s = (s.2.2.2 - y.toInt).toNat := by unfold zmc; rw [if_neg hs0, if_pos hup, v2]
        rcases hq with ⟨q1, q2⟩ | ⟨q1, q2⟩
        · exact Or.inl (by rw [e1, e2]; omega)
        · exact Or.inr ⟨by rw [e1, e2]; omega, ih q2⟩
      · rw [if_neg hup, Bool.or_eq_true, Bool.and_eq_true, Bool.and_eq_true, decide_eq_true_eq, decide_eq_true_eq, decide_eq_true_eq] at hq
        have e1 : zmc lo h s = (x.toInt - s.2.2.2).toNat := by unfold zmc; rw [if_neg hs0, if_neg hup, v1]
        have e2 : zmc lo1 h1 s = (y.toInt - s.2.2.2).toNat := by unfold zmc; rw [if_neg hs0, if_neg hup, v2]
        rcases hq with ⟨q1, q2⟩ | ⟨q1, q2⟩
        · exact Or.inl (by rw [e1, e2]; omega)
        · exact Or.inr ⟨by rw [e1, e2]; omega, ih q2⟩
end
section
/-! THE CHECKER, and that a contract it passes holds -/
noncomputable def zat (ct : zCt) (s : zSt) : Bool := match s.2.2.1 with
  | [f] => (zcC ct).any (fun c => c.1 == f.2.1)
  | _ => false
noncomputable def zhit1 (tt : Nat → zTy) (ct : zCt) (src : Option zCut) (s : zSt) (f : zAf) (c : zCut) : Bool := decide (c.1 = f.2.1) && (decide (f.1 = zcJ ct) && (f.2.2.2.isEmpty && (decide (s.2.2.2.1 = 0) && (decide (s.2.2.2.2 = 0) && (za_l s.1 f.2.2.1 c.2.1 && (za_m tt s.1 s.2.1 f.2.2.1 c.2.2.1 && (match src with
  | none => true
  | some sc => zrk s.1 f.2.2.1 s.2.1 (zc_loc sc) (zc_me sc) sc.2.2.2 c.2.2.2)))))))
noncomputable def zhit (tt : Nat → zTy) (ct : zCt) (src : Option zCut) (s : zSt) : Bool := match s.2.2.1 with
  | [f] => (zcC ct).any (zhit1 tt ct src s f)
  | _ => false
noncomputable def zx (tt : Nat → zTy) (cts : List zCt) (cand : List (List Nat)) (own : Nat) (ct : zCt) (src : Option zCut) : Nat → zSt → Bool
  | 0, _ => false
  | n + 1, s => match zstep tt cts cand own ct s with
    | none => false
    | some l => l.all (fun s' => if zat ct s' = true then zhit tt ct src s' else zx tt cts cand own ct src n s')
noncomputable def zc_st (ct : zCt) (c : zCut) : zSt := (zc_env c, zc_me c, [(zcJ ct, c.1, zc_loc c, [])], 0, 0)
noncomputable def zsl : Nat → List zA → List (Nat × zA)
  | _, [] => []
  | p, a :: as => (p, a) :: zsl (if a.1 = 1 then p + 2 else p + 1) as
noncomputable def zc_0 (ct : zCt) : zCut := (0, zsl 0 (zcA ct), [], [])
noncomputable def zck (tt : Nat → zTy) (cts : List zCt) (cand : List (List Nat)) (own : Nat) (ct : zCt) (N fuel : Nat) : Bool :=
  (zcC ct).all (fun c => decide (c.2.2.2.length = N)) && ((if zat ct (zc_st ct (zc_0 ct)) = true then zhit tt ct none (zc_st ct (zc_0 ct)) else zx tt cts cand own ct none fuel (zc_st ct (zc_0 ct))) && (zcC ct).all (fun c => zx tt cts cand own ct (some c) fuel (zc_st ct c)))
theorem zsl_ge : ∀ {as : List zA} {p : Nat} {q : Nat × zA}, q ∈ zsl p as → p ≤ q.1
  | [], _, _, h => by cases h
  | a :: as, p, q, h => by
    rcases List.mem_cons.mp h with rfl | h
    · exact Nat.le_refl _
    · have := zsl_ge h
      split at this <;> omega
theorem zVl.cons {ty : List Nat} {lo : zL} {a : Nat} {w : Value} : ∀ {ps : List (Nat × zA)} {vs : List Value}, (∀ p ∈ ps, p.1 ≠ a) → zVl ty lo ps vs → zVl ty ((a, w) :: lo) ps vs
  | [], [], _, _ => trivial
  | _ :: _, _ :: _, hn, h => ⟨zget_cons h.1 (hn _ List.mem_cons_self), h.2.1, zVl.cons (fun p hp => hn p (List.mem_cons_of_mem _ hp)) h.2.2⟩
theorem zsl_ok {ty : List Nat} : ∀ {as : List zA} {vs : List Value} (p : Nat), zAg ty as vs → zVl ty (lv_args p vs) (zsl p as) vs
  | [], [], _, _ => trivial
  | a :: as, v :: vs, p, h => by
    have hc := zGcat h.1
    have e : (if v.category = 2 then p + 2 else p + 1) = (if a.1 = 1 then p + 2 else p + 1) := by
      rw [hc]
      by_cases h1 : a.1 = 1
      · rw [if_pos h1, if_pos rfl, if_pos h1]
      · rw [if_neg h1, if_neg (by decide), if_neg h1]
    rw [show lv_args p (v :: vs) = (p, v) :: lv_args (if v.category = 2 then p + 2 else p + 1) vs from rfl, e]
    refine ⟨zget_self, h.1, zVl.cons (fun q hq => ?_) (zsl_ok _ h.2)⟩
    have := zsl_ge hq
    split at this <;> omega
section ZCK
variable {tt : Nat → zTy} {Ex : List Nat → zH → Prop} {cts : List zCt} {cand : List (List Nat)} {own : Nat} {ct : zCt} {ty0 : List Nat} {h0 : zH} {ρ0 : List Value} {sx : zX} {d0 : Nat}
theorem zx_ok {src : Option zCut} (hst : zStable tt Ex (zcM ct)) (hd : zcD ct ≤ d0) (hcts : ∀ c, c < own → ∀ c', cts[c]? = some c' → zVd tt Ex c') (hcut : ∀ (s : zSt) (cf : List zCf) (h : zH) (X Y : Nat), zRl tt Ex ct ty0 h0 ρ0 s cf h X Y → zhit tt ct src s = true → zGo sx d0 (zPo tt Ex ct ty0 h0) cf h X Y) : ∀ (n : Nat) (s : zSt) (cf : List zCf) (h : zH) (X Y : Nat), zRl tt Ex ct ty0 h0 ρ0 s cf h X Y → zx tt cts cand own ct src n s = true → zGo sx d0 (zPo tt Ex ct ty0 h0) cf h X Y
  | 0, _, _, _, _, _, _, hq => by cases hq
  | n + 1, s, cf, h, X, Y, R, hq => by
    rw [zx] at hq
    split at hq
    case h_1 => cases hq
    next l hl =>
    refine zstep_ok hst hd hcts R hl ⟨fun _ _ _ _ q => q, fun s' hs' cf' h' X' Y' R' => ?_⟩
    have := List.all_eq_true.mp hq s' hs'
    split at this
    · exact hcut s' cf' h' X' Y' R' this
    · exact zx_ok hst hd hcts hcut n s' cf' h' X' Y' R' this
theorem zhit_ok {src : Option zCut} {s : zSt} {cf : List zCf} {h : zH} {X Y : Nat} (R : zRl tt Ex ct ty0 h0 ρ0 s cf h X Y) (hq : zhit tt ct src s = true) : ∃ c ∈ zcC ct, ∃ (ty : List Nat) (lo : zL) (vl vm : List Value), cf = [(zcJ ct, c.1, lo, [])] ∧ X = 0 ∧ Y = 0 ∧ zExt ty0 ty ∧ zTY tt ty h ∧ Ex ty h ∧ zFm (zcM ct) ty0 h0 h ∧ zVl ty lo c.2.1 vl ∧ zVm ty lo h c.2.2.1 vm ∧ ∀ sc, src = some sc → ∀ lo1 h1, zLo ρ0 (zc_loc sc) lo1 → zMm h1 ρ0 (zc_me sc) → zlex (c.2.2.2.map (zmc lo h)) (sc.2.2.2.map (zmc lo1 h1)) := by
  obtain ⟨ty, ρ, a1, a2, a3, a4, a5, a6, a7, a10, a11, a12⟩ := R
  unfold zhit at hq
  split at hq
  case h_2 => cases hq
  next f hf =>
  rw [hf] at a10
  match cf, a10 with
  | [(j, k, lo, st)], a10 =>
  obtain ⟨b1, b2, b3, b4, -⟩ := a10
  obtain ⟨c, hc, h9⟩ := List.any_eq_true.mp hq
  unfold zhit1 at h9
  simp only [Bool.and_eq_true, decide_eq_true_eq] at h9
  obtain ⟨c1, c2, c3, c4, c5, c6, c7, c8⟩ := h9
  obtain ⟨vl, hvl⟩ := za_l_ok a6 b3 c6
  obtain ⟨vm, hvm⟩ := za_m_ok a3 a6 a7 b3 c7
  have hst : st = [] := by
    rw [List.isEmpty_iff.mp c3] at b4
    cases st with
    | nil => rfl
    | cons _ _ => exact b4.elim
  subst hst
  dsimp only at b1 b2
  refine ⟨c, hc, ty, lo, vl, vm, by rw [← b1, ← b2, c1, c2], by omega, by omega, a2, a3, a4, a5, hvl, hvm, fun sc hsc lo1 h1 L1 M1 => ?_⟩
  subst hsc
  refine zrk_ok a6 b3 a7 a1 L1 M1 (fun s9 _ a ha => ?_) c8
  have : ∃ w, ρ0[a]? = some w := by
    unfold zvid at ha
    split at ha
    · obtain ⟨v, v1, -⟩ := zlk_ok L1 ha; exact ⟨v, v1⟩
    · split at ha
      · obtain ⟨a9, e9, n9, w9, -, -, -, -, k5⟩ := M1 _ (zml_ok ha); exact ⟨w9, k5⟩
      · cases ha
  obtain ⟨w, hw⟩ := this
  exact (List.getElem?_eq_some_iff.mp hw).1
theorem zc_start {ty : List Nat} {lo : zL} {h : zH} {c : zCut} {vl vm : List Value} (a2 : zExt ty0 ty) (a3 : zTY tt ty h) (a4 : Ex ty h) (a5 : zFm (zcM ct) ty0 h0 h) (H1 : zVl ty lo c.2.1 vl) (H2 : zVm ty lo h c.2.2.1 vm) : zRl tt Ex ct ty0 h0 (vl ++ vm) (zc_st ct c) [(zcJ ct, c.1, lo, [])] h 0 0 :=
  ⟨ty, vl ++ vm, zRx.rf, a2, a3, a4, a5, zc_ev H1 H2, zc_mm H1 H2, ⟨rfl, rfl, zc_lo H1, trivial, trivial⟩, Nat.le_refl _, Nat.le_refl _⟩
theorem zcut_ok {N fuel : Nat} (hst : zStable tt Ex (zcM ct)) (hd : zcD ct ≤ d0) (hcts : ∀ c, c < own → ∀ c', cts[c]? = some c' → zVd tt Ex c') (hN : ∀ c ∈ zcC ct, c.2.2.2.length = N) (hck : ∀ c ∈ zcC ct, zx tt cts cand own ct (some c) fuel (zc_st ct c) = true) : ∀ m : List Nat, m.length = N → ∀ c ∈ zcC ct, ∀ (ty : List Nat) (lo : zL) (h : zH) (vl vm : List Value), m = c.2.2.2.map (zmc lo h) → zExt ty0 ty → zTY tt ty h → Ex ty h → zFm (zcM ct) ty0 h0 h → zVl ty lo c.2.1 vl → zVm ty lo h c.2.2.1 vm → zGo sx d0 (zPo tt Ex ct ty0 h0) [(zcJ ct, c.1, lo, [])] h 0 0 := by
  refine zlex_ind N _ (fun m hm ih => ?_)
  intro c hc ty lo h vl vm hme a2 a3 a4 a5 H1 H2
  refine zx_ok (ρ0 := vl ++ vm) hst hd hcts (fun s cf h' X Y R hh => ?_) fuel (zc_st ct c) _ h 0 0 (zc_start a2 a3 a4 a5 H1 H2) (hck c hc)
  obtain ⟨c', hc', ty', lo', vl', vm', rfl, rfl, rfl, p2, p3, p4, p5, p6, p7, p8⟩ := zhit_ok R hh
  refine ih _ (by rw [List.length_map]; exact hN c' hc') ?_ c' hc' ty' lo' h' vl' vm' rfl p2 p3 p4 p5 p6 p7
  rw [hme]
  exact p8 c rfl lo h (zc_lo H1) (zc_mm H1 H2)
/-- what the checker passes holds -/
theorem zck_ok {N fuel : Nat} (hst : zStable tt Ex (zcM ct)) (hcts : ∀ c, c < own → ∀ c', cts[c]? = some c' → zVd tt Ex c') (hck : zck tt cts cand own ct N fuel = true) : zVd tt Ex ct := by
  unfold zck at hck
  rw [Bool.and_eq_true, Bool.and_eq_true] at hck
  obtain ⟨k1, k2, k3⟩ := hck
  have hN : ∀ c ∈ zcC ct, c.2.2.2.length = N := fun c hc => of_decide_eq_true (List.all_eq_true.mp k1 c hc)
  have hcuts := List.all_eq_true.mp k3
  intro sx d ty h as hd T hE hA
  have hgo : zGo sx d (zPo tt Ex ct ty h) [(zcJ ct, 0, lv_args 0 as, [])] h 0 0 := by
    have H1 : zVl ty (lv_args 0 as) (zc_0 ct).2.1 as := zsl_ok 0 hA
    have R := zc_start (tt := tt) (Ex := Ex) (ct := ct) (ty0 := ty) (h0 := h) (c := zc_0 ct) (vm := []) zExt.rf T hE zFm.rf H1 trivial
    have hcut : ∀ (s : zSt) (cf : List zCf) (h' : zH) (X Y : Nat), zRl tt Ex ct ty h (as ++ []) s cf h' X Y → zhit tt ct none s = true → zGo sx d (zPo tt Ex ct ty h) cf h' X Y := by
      intro s cf h' X Y R hh
      obtain ⟨c', hc', ty', lo', vl', vm', rfl, rfl, rfl, p2, p3, p4, p5, p6, p7, -⟩ := zhit_ok R hh
      exact zcut_ok (fuel := fuel) hst hd hcts hN hcuts _ (by rw [List.length_map]; exact hN c' hc') c' hc' ty' lo' h' vl' vm' rfl p2 p3 p4 p5 p6 p7
    split at k2
    · exact hcut _ _ h 0 0 R k2
    · exact zx_ok hst hd hcts hcut fuel _ _ h 0 0 R k2
  refine z_ok.imp hgo (fun o h' x y q => ?_)
  have q : zPo tt Ex ct ty h o h' (x + 0) (y + 0) := q
  exact q
/-- all contracts of a table -/
theorem zcts_ok (hck : ∀ (c : Nat) (ct : zCt), cts[c]? = some ct → (zStable tt Ex (zcM ct) ∧ ∃ N fuel, zck tt cts cand c ct N fuel = true) ∨ ((∀ c9, c9 < c → ∀ c', cts[c9]? = some c' → zVd tt Ex c') → zVd tt Ex ct)) : ∀ (c : Nat) (ct : zCt), cts[c]? = some ct → zVd tt Ex ct := by
  intro c
  induction c using Nat.strongRecOn with
  | ind c ih =>
    intro ct hct
    rcases hck c ct hct with ⟨hst, N, fuel, h⟩ | h
    · exact zck_ok hst (fun c9 h9 c' hc' => ih c9 h9 c' hc') h
    · exact h (fun c9 h9 c' hc' => ih c9 h9 c' hc')
end ZCK
end
section
/-! TYPES of cells and CONTRACTS of methods, printed by a program of mine (wip/gen/print_ct.py): data; what they say is proved below ; cuts of cut3.py -/
noncomputable def zTy0 : zTy := (9, 0, 0, [])
noncomputable def zTy_1 : zTy := (0, 8, 8, [(0, 0, (2, 2, 2)), (1, 1, (2, 4, 4)), (2, 4, (2, 8, 8)), (5, 5, (2, 17, 17)), (6, 6, (0, 0, 1)), (7, 7, zFull)])
noncomputable def zTy_2 : zTy := (0, 6, 4, [(0, 0, (2, 3, 3)), (1, 2, (0, 0, 400)), (3, 3, zFull)])
noncomputable def zTy_3 : zTy := (1, 0, 400, [(0, 399, zFull)])
noncomputable def zTy_4 : zTy := (0, 3, 6, [(0, 1, (2, 5, 5)), (2, 2, (2, 6, 6)), (3, 3, (2, 7, 7)), (4, 4, (0, 0, 12)), (5, 5, (0, 0, 400))])
noncomputable def zTy_5 : zTy := (1, 0, 12, [(0, 11, zFull)])
noncomputable def zTy_6 : zTy := (1, 0, 12, [(0, 11, (0, 0, 400))])
noncomputable def zTy_7 : zTy := (1, 0, 400, [(0, 399, zFull)])
noncomputable def zTy_8 : zTy := (0, 1, 18, [(0, 0, (2, 16, 16)), (1, 1, (2, 9, 9)), (2, 2, (2, 11, 11)), (3, 3, (2, 13, 13)), (4, 4, (2, 12, 12)), (5, 5, (3, 100, 112)), (6, 17, zFull)])
noncomputable def zTy_9 : zTy := (0, 0, 5, [(0, 3, (2, 10, 10)), (4, 4, (0, 0, 6))])
noncomputable def zTy_10 : zTy := (1, 0, 6, [(0, 5, zFull)])
noncomputable def zTy_11 : zTy := (0, 7, 4, [(0, 1, (2, 12, 12)), (2, 2, zFull), (3, 3, (0, 0, 8))])
noncomputable def zTy_12 : zTy := (1, 0, 8, [(0, 7, zFull)])
noncomputable def zTy_13 : zTy := (0, 4, 3, [(0, 0, (2, 14, 14)), (1, 1, (0, 0, 59)), (2, 2, (0, 0, 60))])
noncomputable def zTy_14 : zTy := (1, 0, 300, [(0, 299, zFull)])
noncomputable def zTy_16 : zTy := (1, 0, 24, [(0, 23, zFull)])
noncomputable def zTy_17 : zTy := (0, 5, 3, [(0, 0, (2, 18, 18)), (1, 1, (0, 0, 11)), (2, 2, (0, 0, 12))])
noncomputable def zTy_18 : zTy := (4, 0, 12, [(0, 11, (2, 8, 8))])
noncomputable def zTy_20 : zTy := (0, 9, 23, [(0, 0, zFull), (1, 1, (2, 21, 21)), (2, 2, (2, 22, 22)), (3, 3, (2, 23, 23)), (4, 4, (2, 24, 24)), (5, 5, (2, 25, 25)), (6, 6, (0, 0, 1)), (7, 7, (0, 0, 12)), (8, 8, (2, 26, 26)), (9, 12, (0, 0, 400)), (13, 13, (0, 0, 6)), (14, 14, zFull), (15, 15, (2, 27, 27)), (16, 16, (0, 0, 400)), (17, 17, (2, 28, 28)), (18, 18, (2, 29, 29)), (19, 19, (2, 30, 30)), (20, 20, (2, 31, 31)), (21, 21, (2, 32, 32)), (22, 22, zFull)])
noncomputable def zTy_21 : zTy := (1, 0, 2086, [(0, 0, (0, 0, 6)), (1, 1, (0, 0, 8)), (2, 3, zFull), (4, 4, (0, 0, 23)), (5, 13, zFull), (14, 14, (0, 0, 60)), (15, 15, zFull), (16, 39, (0, -1, 5)), (40, 63, zFull), (64, 87, (0, -1, 9)), (88, 387, zFull), (388, 388, (0, 0, 12)), (389, 1236, zFull), (1237, 2085, zFull)])
noncomputable def zTy_22 : zTy := (1, 0, 1237, [(0, 0, (0, 0, 6)), (1, 1, (0, 0, 8)), (2, 3, zFull), (4, 4, (0, 0, 23)), (5, 13, zFull), (14, 14, (0, 0, 60)), (15, 15, zFull), (16, 39, (0, -1, 5)), (40, 63, zFull), (64, 87, (0, -1, 9)), (88, 387, zFull), (388, 388, (0, 0, 12)), (389, 1236, zFull)])
noncomputable def zTy_23 : zTy := (1, 0, 1237, [(0, 0, (0, 0, 6)), (1, 1, (0, 0, 8)), (2, 3, zFull), (4, 4, (0, 0, 23)), (5, 13, zFull), (14, 14, (0, 0, 60)), (15, 15, zFull), (16, 39, (0, -1, 5)), (40, 63, zFull), (64, 87, (0, -1, 9)), (88, 387, zFull), (388, 388, (0, 0, 12)), (389, 1236, zFull)])
noncomputable def zTy_24 : zTy := (1, 0, 388, [(0, 0, (0, 0, 6)), (1, 1, (0, 0, 8)), (2, 3, zFull), (4, 4, (0, 0, 23)), (5, 13, zFull), (14, 14, (0, 0, 60)), (15, 15, zFull), (16, 39, (0, -1, 5)), (40, 63, zFull), (64, 87, (0, -1, 9)), (88, 387, zFull)])
noncomputable def zTy_25 : zTy := (1, 0, 4656, [(0, 0, (0, 0, 6)), (1, 1, (0, 0, 8)), (2, 3, zFull), (4, 4, (0, 0, 23)), (5, 13, zFull), (14, 14, (0, 0, 60)), (15, 15, zFull), (16, 39, (0, -1, 5)), (40, 63, zFull), (64, 87, (0, -1, 9)), (88, 387, zFull), (388, 388, (0, 0, 6)), (389, 389, (0, 0, 8)), (390, 391, zFull), (392, 392, (0, 0, 23)), (393, 401, zFull), (402, 402, (0, 0, 60)), (403, 403, zFull), (404, 427, (0, -1, 5)), (428, 451, zFull), (452, 475, (0, -1, 9)), (476, 775, zFull), (776, 776, (0, 0, 6)), (777, 777, (0, 0, 8)), (778, 779, zFull), (780, 780, (0, 0, 23)), (781, 789, zFull), (790, 790, (0, 0, 60)), (791, 791, zFull), (792, 815, (0, -1, 5)), (816, 839, zFull), (840, 863, (0, -1, 9)), (864, 1163, zFull), (1164, 1164, (0, 0, 6)), (1165, 1165, (0, 0, 8)), (1166, 1167, zFull), (1168, 1168, (0, 0, 23)), (1169, 1177, zFull), (1178, 1178, (0, 0, 60)), (1179, 1179, zFull), (1180, 1203, (0, -1, 5)), (1204, 1227, zFull), (1228, 1251, (0, -1, 9)), (1252, 1551, zFull), (1552, 1552, (0, 0, 6)), (1553, 1553, (0, 0, 8)), (1554, 1555, zFull), (1556, 1556, (0, 0, 23)), (1557, 1565, zFull), (1566, 1566, (0, 0, 60)), (1567, 1567, zFull), (1568, 1591, (0, -1, 5)), (1592, 1615, zFull), (1616, 1639, (0, -1, 9)), (1640, 1939, zFull), (1940, 1940, (0, 0, 6)), (1941, 1941, (0, 0, 8)), (1942, 1943, zFull), (1944, 1944, (0, 0, 23)), (1945, 1953, zFull), (1954, 1954, (0, 0, 60)), (1955, 1955, zFull), (1956, 1979, (0, -1, 5)), (1980, 2003, zFull), (2004, 2027, (0, -1, 9)), (2028, 2327, zFull), (2328, 2328, (0, 0, 6)), (2329, 2329, (0, 0, 8)), (2330, 2331, zFull), (2332, 2332, (0, 0, 23)), (2333, 2341, zFull), (2342, 2342, (0, 0, 60)), (2343, 2343, zFull), (2344, 2367, (0, -1, 5)), (2368, 2391, zFull), (2392, 2415, (0, -1, 9)), (2416, 2715, zFull), (2716, 2716, (0, 0, 6)), (2717, 2717, (0, 0, 8)), (2718, 2719, zFull), (2720, 2720, (0, 0, 23)), (2721, 2729, zFull), (2730, 2730, (0, 0, 60)), (2731, 2731, zFull), (2732, 2755, (0, -1, 5)), (2756, 2779, zFull), (2780, 2803, (0, -1, 9)), (2804, 3103, zFull), (3104, 3104, (0, 0, 6)), (3105, 3105, (0, 0, 8)), (3106, 3107, zFull), (3108, 3108, (0, 0, 23)), (3109, 3117, zFull), (3118, 3118, (0, 0, 60)), (3119, 3119, zFull), (3120, 3143, (0, -1, 5)), (3144, 3167, zFull), (3168, 3191, (0, -1, 9)), (3192, 3491, zFull), (3492, 3492, (0, 0, 6)), (3493, 3493, (0, 0, 8)), (3494, 3495, zFull), (3496, 3496, (0, 0, 23)), (3497, 3505, zFull), (3506, 3506, (0, 0, 60)), (3507, 3507, zFull), (3508, 3531, (0, -1, 5)), (3532, 3555, zFull), (3556, 3579, (0, -1, 9)), (3580, 3879, zFull), (3880, 3880, (0, 0, 6)), (3881, 3881, (0, 0, 8)), (3882, 3883, zFull), (3884, 3884, (0, 0, 23)), (3885, 3893, zFull), (3894, 3894, (0, 0, 60)), (3895, 3895, zFull), (3896, 3919, (0, -1, 5)), (3920, 3943, zFull), (3944, 3967, (0, -1, 9)), (3968, 4267, zFull), (4268, 4268, (0, 0, 6)), (4269, 4269, (0, 0, 8)), (4270, 4271, zFull), (4272, 4272, (0, 0, 23)), (4273, 4281, zFull), (4282, 4282, (0, 0, 60)), (4283, 4283, zFull), (4284, 4307, (0, -1, 5)), (4308, 4331, zFull), (4332, 4355, (0, -1, 9)), (4356, 4655, zFull)])
noncomputable def zTy_26 : zTy := (2, 0, 400, [(0, 399, zFull)])
noncomputable def zTy_27 : zTy := (1, 0, 5, [(0, 4, zFull)])
noncomputable def zTy_28 : zTy := (1, 0, 400, [(0, 399, zFull)])
noncomputable def zTy_29 : zTy := (1, 0, 24, [(0, 23, (0, -1, 5))])
noncomputable def zTy_30 : zTy := (1, 0, 6, [(0, 5, zFull)])
noncomputable def zTy_31 : zTy := (1, 0, 6, [(0, 5, (0, 0, 23))])
noncomputable def zTy_32 : zTy := (1, 0, 6, [(0, 5, (0, -1, 5))])
noncomputable def zTy_33 : zTy := (3, 0, 1, [(0, 0, (1, -9223372036854775808, 9223372036854775807))])
noncomputable def zTy_34 : zTy := (1, 0, 32, [(0, 31, zFull)])
noncomputable def zTyl : List zTy := [zTy0, zTy_1, zTy_2, zTy_3, zTy_4, zTy_5, zTy_6, zTy_7, zTy_8, zTy_9, zTy_10, zTy_11, zTy_12, zTy_13, zTy_14, zTy0, zTy_16, zTy_17, zTy_18, zTy0, zTy_20, zTy_21, zTy_22, zTy_23, zTy_24, zTy_25, zTy_26, zTy_27, zTy_28, zTy_29, zTy_30, zTy_31, zTy_32, zTy_33, zTy_34]
noncomputable def z_tt (t : Nat) : zTy := if t < 35 then zTyl.getD t zTy0
  else if 100 ≤ t ∧ t ≤ 112 then (0, 2, 6, [(0, 0, (0, ((t - 100 : Nat) : Int), ((t - 100 : Nat) : Int))), (1, 2, (2, ((t + 40 : Nat) : Int), ((t + 40 : Nat) : Int))), (3, 3, (2, ((t + 20 : Nat) : Int), ((t + 20 : Nat) : Int))), (4, 4, (2, 1000, 1400)), (5, 5, (2, 34, 34))])
  else if 120 ≤ t ∧ t ≤ 132 then (1, 0, t - 120, [(0, ((t : Nat) : Int) - 121, (0, 0, 400))])
  else if 140 ≤ t ∧ t ≤ 152 then (1, 0, t - 140, [(0, ((t : Nat) : Int) - 141, zFull)])
  else if 1000 ≤ t ∧ t ≤ 1400 then (1, 0, t - 1000, [(0, ((t : Nat) : Int) - 1001, zFull)])
  else zTy0
noncomputable def zC0 : zCt := (204, [(2, 20, 20), (5, 42, 42)], [(0, 0, 1)], [], [], 8, (0, 0, 0, 0), [])
noncomputable def zC1 : zCt := (204, [(2, 20, 20), (5, 43, 43)], [(0, 0, 1)], [], [], 8, (0, 0, 0, 0), [])
noncomputable def zC2 : zCt := (204, [(2, 20, 20), (5, 44, 44)], [(0, 0, 1)], [], [], 8, (0, 0, 0, 0), [])
noncomputable def zC3 : zCt := (204, [(2, 20, 20), (5, 45, 45)], [(0, 0, 1)], [], [], 8, (0, 0, 0, 0), [])
noncomputable def zC4 : zCt := (204, [(2, 20, 20), (5, 46, 46)], [(0, 0, 1)], [], [], 8, (0, 0, 0, 0), [])
noncomputable def zC5 : zCt := (204, [(2, 20, 20), (5, 47, 47)], [(0, 0, 1)], [], [], 8, (0, 0, 0, 0), [])
noncomputable def zC6 : zCt := (204, [(2, 20, 20), (5, 48, 48)], [(0, 0, 1)], [], [], 8, (0, 0, 0, 0), [])
noncomputable def zC7 : zCt := (204, [(2, 20, 20), (5, 49, 49)], [(0, 0, 1)], [], [], 8, (0, 0, 0, 0), [])
noncomputable def zC8 : zCt := (204, [(2, 20, 20), (5, 50, 50)], [(0, 0, 1)], [], [], 8, (0, 0, 0, 0), [])
noncomputable def zC9 : zCt := (204, [(2, 20, 20), (5, 51, 51)], [(0, 0, 1)], [], [], 8, (0, 0, 0, 0), [])
noncomputable def zC10 : zCt := (204, [(2, 20, 20), (5, 52, 52)], [(0, 0, 1)], [], [], 8, (0, 0, 0, 0), [])
noncomputable def zC11 : zCt := (204, [(2, 20, 20), (5, 53, 53)], [(0, 0, 1)], [], [], 8, (0, 0, 0, 0), [])
noncomputable def zC12 : zCt := (204, [(2, 20, 20), (5, 54, 54)], [(0, 0, 1)], [], [], 8, (0, 0, 0, 0), [])
noncomputable def zC13 : zCt := (204, [(2, 20, 20), (5, 55, 55)], [(0, 0, 1)], [], [], 8, (0, 0, 0, 0), [])
noncomputable def zC14 : zCt := (204, [(2, 20, 20), (5, 56, 56)], [(0, 0, 1)], [], [], 8, (0, 0, 0, 0), [])
noncomputable def zC15 : zCt := (204, [(2, 20, 20), (5, 57, 57)], [(0, 0, 1)], [], [], 8, (0, 0, 0, 0), [])
noncomputable def zC16 : zCt := (204, [(2, 20, 20), (5, 58, 58)], [(0, 0, 1)], [], [], 8, (0, 0, 0, 0), [])
noncomputable def zC17 : zCt := (204, [(2, 20, 20), (5, 59, 59)], [(0, 0, 1)], [], [], 8, (0, 0, 0, 0), [])
noncomputable def zC18 : zCt := (204, [(2, 20, 20), (5, 60, 60)], [(0, 0, 1)], [], [], 8, (0, 0, 0, 0), [])
noncomputable def zC19 : zCt := (204, [(2, 20, 20), (5, 61, 61)], [(0, 0, 1)], [], [], 8, (0, 0, 0, 0), [])
noncomputable def zC20 : zCt := (204, [(2, 20, 20), (5, 62, 62)], [(0, 0, 1)], [], [], 8, (0, 0, 0, 0), [])
noncomputable def zC21 : zCt := (204, [(2, 20, 20), (5, 63, 63)], [(0, 0, 1)], [], [], 8, (0, 0, 0, 0), [])
noncomputable def zC22 : zCt := (204, [(2, 20, 20), (5, 64, 64)], [(0, 0, 1)], [], [], 8, (0, 0, 0, 0), [])
noncomputable def zC23 : zCt := (204, [(2, 20, 20), (5, 65, 65)], [(0, 0, 1)], [], [], 8, (0, 0, 0, 0), [])
noncomputable def zC24 : zCt := (204, [(2, 20, 20), (5, 66, 66)], [(0, 0, 1)], [], [], 8, (0, 0, 0, 0), [])
noncomputable def zC25 : zCt := (204, [(2, 20, 20), (5, 67, 67)], [(0, 0, 1)], [], [], 8, (0, 0, 0, 0), [])
noncomputable def zC26 : zCt := (312, [zFull, (0, 24, 24)], [(0, 0, 23)], [], [], 0, (0, 0, 0, 0), [])
noncomputable def zC27 : zCt := (312, [zFull, (0, 60, 60)], [(0, 0, 59)], [], [], 0, (0, 0, 0, 0), [])
noncomputable def zC28 : zCt := (180, [(2, 20, 20)], [], [], [(20, 0, 0), (20, 6, 6), (22, 0, 1236)], 0, (0, 0, 0, 0), [])
noncomputable def zC29 : zCt := (181, [(2, 20, 20)], [(0, 0, 1)], [], [(20, 0, 0), (20, 7, 7), (21, 0, 1236)], 0, (0, 0, 0, 0), [])
noncomputable def zC30 : zCt := (182, [(2, 20, 20)], [], [], [(20, 7, 7), (25, 0, 4655)], 0, (0, 0, 0, 0), [])
noncomputable def zC31 : zCt := (183, [(2, 20, 20)], [(0, 0, 1)], [], [(20, 0, 0), (20, 7, 7), (21, 0, 387)], 0, (0, 0, 0, 0), [])
noncomputable def zC32 : zCt := (266, [(2, 20, 20)], [], [], [(24, 0, 387)], 0, (0, 0, 0, 0), [])
noncomputable def zC33 : zCt := (267, [(2, 20, 20)], [], [], [(21, 0, 387)], 0, (0, 0, 0, 0), [])
noncomputable def zC34 : zCt := (85, [(2, 2, 2), zFull], [], [], [(2, 1, 1), (3, 0, 399)], 0, (0, 0, 0, 0), [(2, [(0, (2, 2, 2)), (1, zFull), (2, (0, -2147483648, 24))], [], [(0, 0, 0, 1), (2, 2, 0, -2147483648), (0, 0, 0, 1)])])
noncomputable def zC35 : zCt := (118, [(2, 1, 1), zFull, zFull, zFull, zFull, zFull], [(0, -1, 400)], [], [(2, 1, 1), (3, 0, 399)], 1, (0, 0, 0, 0), [])
noncomputable def zC36 : zCt := (119, [(2, 1, 1), zFull], [(0, 0, 1)], [], [(2, 1, 1)], 0, (0, 0, 0, 0), [])
noncomputable def zC37 : zCt := (97, [(2, 2, 2)], [], [], [(2, 2, 2)], 0, (0, 0, 0, 0), [(0, [(0, (2, 2, 2))], [(0, 2, (0, 0, 400))], [(0, 0, 0, 1), (3, 0, 2, 400), (0, 0, 0, 1)])])
noncomputable def zC38 : zCt := (96, [(2, 2, 2), (0, 0, 0), (0, 23, 23)], [(0, 0, 23)], [], [(2, 2, 3)], 1, (0, 0, 0, 0), [(5, [(0, (2, 2, 2)), (1, (0, 0, 0)), (2, (0, 23, 23)), (3, (0, 0, 400)), (4, zFull)], [(0, 2, (0, 0, 400))], [(0, 0, 0, 3), (1, 3, 0, 400), (0, 0, 0, 1)]), (32, [(0, (2, 2, 2)), (1, (0, 0, 0)), (2, (0, 23, 23)), (3, (0, 0, 400)), (4, zFull)], [(0, 1, (0, 0, 400)), (0, 2, (0, 0, 400))], [(0, 0, 0, 2), (0, 0, 0, 0), (0, 0, 0, 0)]), (49, [(0, (2, 2, 2)), (1, (0, 0, 0)), (2, (0, 23, 23)), (3, (0, 0, 400)), (4, zFull), (5, (0, -400, 400))], [(0, 1, (0, 0, 400)), (0, 2, (0, 0, 400))], [(0, 0, 0, 1), (0, 0, 0, 0), (0, 0, 0, 0)])])
noncomputable def zC39 : zCt := (91, [(2, 2, 2), (5, 26, 26)], [(0, 0, 1)], [], [(2, 2, 2)], 6, (0, 0, 0, 0), [(23, [(0, (2, 2, 2)), (1, (5, 26, 26)), (2, (0, 2, 400)), (3, (0, 0, 2))], [(0, 1, (0, 2, 400)), (0, 2, (0, 0, 398)), (0, 3, (0, -1, -1))], [(0, 0, 0, 1), (1, 3, 0, 2), (0, 0, 0, 1)])])
noncomputable def zC40 : zCt := (6, [(2, 2, 2)], [zFull], [], [(2, 2, 3)], 8, (0, 0, 0, 0), [(25, [(0, (2, 2, 2)), (1, (0, 0, 23)), (2, (0, 0, 23)), (3, (0, 1, 24)), (4, zFull), (5, (0, 0, 24))], [], [(0, 0, 0, 1), (1, 5, 0, 24), (0, 0, 0, 1)])])
noncomputable def zC41 : zCt := (29, [(2, 8, 8), zFull, zFull], [], [], [(16, 0, 23)], 0, (0, 0, 0, 0), [(2, [(0, (2, 8, 8)), (1, zFull), (2, zFull), (3, (0, 0, 24))], [], [(0, 0, 0, 1), (1, 3, 0, 24), (0, 0, 0, 1)])])
noncomputable def zC42 : zCt := (96, [(2, 2, 2), (0, 0, 0), (0, 9, 9)], [(0, 0, 9)], [], [(2, 2, 3)], 1, (0, 0, 0, 0), [(5, [(0, (2, 2, 2)), (1, (0, 0, 0)), (2, (0, 9, 9)), (3, (0, 0, 400)), (4, zFull)], [(0, 2, (0, 0, 400))], [(0, 0, 0, 3), (1, 3, 0, 400), (0, 0, 0, 1)]), (32, [(0, (2, 2, 2)), (1, (0, 0, 0)), (2, (0, 9, 9)), (3, (0, 0, 400)), (4, zFull)], [(0, 1, (0, 0, 400)), (0, 2, (0, 0, 400))], [(0, 0, 0, 2), (0, 0, 0, 0), (0, 0, 0, 0)]), (49, [(0, (2, 2, 2)), (1, (0, 0, 0)), (2, (0, 9, 9)), (3, (0, 0, 400)), (4, zFull), (5, (0, -400, 400))], [(0, 1, (0, 0, 400)), (0, 2, (0, 0, 400))], [(0, 0, 0, 1), (0, 0, 0, 0), (0, 0, 0, 0)])])
noncomputable def zC43 : zCt := (96, [(2, 2, 2), (0, 0, 0), (0, 999, 999)], [(0, 0, 999)], [], [(2, 2, 3)], 1, (0, 0, 0, 0), [(5, [(0, (2, 2, 2)), (1, (0, 0, 0)), (2, (0, 999, 999)), (3, (0, 0, 400)), (4, zFull)], [(0, 2, (0, 0, 400))], [(0, 0, 0, 3), (1, 3, 0, 400), (0, 0, 0, 1)]), (32, [(0, (2, 2, 2)), (1, (0, 0, 0)), (2, (0, 999, 999)), (3, (0, 0, 400)), (4, zFull)], [(0, 1, (0, 0, 400)), (0, 2, (0, 0, 400))], [(0, 0, 0, 2), (0, 0, 0, 0), (0, 0, 0, 0)]), (49, [(0, (2, 2, 2)), (1, (0, 0, 0)), (2, (0, 999, 999)), (3, (0, 0, 400)), (4, zFull), (5, (0, -400, 400))], [(0, 1, (0, 0, 400)), (0, 2, (0, 0, 400))], [(0, 0, 0, 1), (0, 0, 0, 0), (0, 0, 0, 0)])])
noncomputable def zC44 : zCt := (91, [(2, 2, 2), (5, 13, 13)], [(0, 0, 1)], [], [(2, 2, 2)], 6, (0, 0, 0, 0), [(23, [(0, (2, 2, 2)), (1, (5, 13, 13)), (2, (0, 5, 400)), (3, (0, 0, 5))], [(0, 1, (0, 5, 400)), (0, 2, (0, 0, 395)), (0, 3, (0, -1, -1))], [(0, 0, 0, 1), (1, 3, 0, 5), (0, 0, 0, 1)])])
noncomputable def zC45 : zCt := (91, [(2, 2, 2), (5, 15, 15)], [(0, 0, 1)], [], [(2, 2, 2)], 6, (0, 0, 0, 0), [(23, [(0, (2, 2, 2)), (1, (5, 15, 15)), (2, (0, 6, 400)), (3, (0, 0, 6))], [(0, 1, (0, 6, 400)), (0, 2, (0, 0, 394)), (0, 3, (0, -1, -1))], [(0, 0, 0, 1), (1, 3, 0, 6), (0, 0, 0, 1)])])
noncomputable def zC46 : zCt := (91, [(2, 2, 2), (5, 21, 21)], [(0, 0, 1)], [], [(2, 2, 2)], 6, (0, 0, 0, 0), [(23, [(0, (2, 2, 2)), (1, (5, 21, 21)), (2, (0, 5, 400)), (3, (0, 0, 5))], [(0, 1, (0, 5, 400)), (0, 2, (0, 0, 395)), (0, 3, (0, -1, -1))], [(0, 0, 0, 1), (1, 3, 0, 5), (0, 0, 0, 1)])])
noncomputable def zC47 : zCt := (91, [(2, 2, 2), (5, 22, 22)], [(0, 0, 1)], [], [(2, 2, 2)], 6, (0, 0, 0, 0), [(23, [(0, (2, 2, 2)), (1, (5, 22, 22)), (2, (0, 4, 400)), (3, (0, 0, 5))], [(0, 1, (0, 4, 400)), (0, 2, (0, 0, 396)), (0, 3, (0, -1, -1))], [(0, 0, 0, 1), (1, 3, 0, 5), (0, 0, 0, 1)])])
noncomputable def zC48 : zCt := (91, [(2, 2, 2), (5, 23, 23)], [(0, 0, 1)], [], [(2, 2, 2)], 6, (0, 0, 0, 0), [(23, [(0, (2, 2, 2)), (1, (5, 23, 23)), (2, (0, 5, 400)), (3, (0, 0, 5))], [(0, 1, (0, 5, 400)), (0, 2, (0, 0, 395)), (0, 3, (0, -1, -1))], [(0, 0, 0, 1), (1, 3, 0, 5), (0, 0, 0, 1)])])
noncomputable def zC49 : zCt := (3, [(2, 8, 8), (2, 2, 2)], [], [], [(2, 2, 3), (9, 4, 4), (10, 0, 5), (16, 0, 23)], 9, (0, 0, 0, 0), [(3, [(0, (2, 8, 8)), (1, (2, 2, 2))], [], [(0, 0, 0, 4)]), (11, [(0, (2, 8, 8)), (1, (2, 2, 2)), (2, (0, 0, 999))], [], [(0, 0, 0, 3)]), (19, [(0, (2, 8, 8)), (1, (2, 2, 2)), (2, (0, 0, 999)), (3, (0, 0, 9))], [], [(0, 0, 0, 2)]), (40, [(0, (2, 8, 8)), (1, (2, 2, 2)), (2, (0, 0, 999)), (3, (0, 0, 9)), (4, (0, 0, 9)), (5, (0, -1, 5))], [(0, 1, (2, 9, 9))], [(0, 0, 0, 1)])])
noncomputable def zC50 : zCt := (96, [(2, 2, 2), (0, 0, 0), (0, 20, 20)], [(0, 0, 20)], [], [(2, 2, 3)], 1, (0, 0, 0, 0), [(5, [(0, (2, 2, 2)), (1, (0, 0, 0)), (2, (0, 20, 20)), (3, (0, 0, 400)), (4, zFull)], [(0, 2, (0, 0, 400))], [(0, 0, 0, 3), (1, 3, 0, 400), (0, 0, 0, 1)]), (32, [(0, (2, 2, 2)), (1, (0, 0, 0)), (2, (0, 20, 20)), (3, (0, 0, 400)), (4, zFull)], [(0, 1, (0, 0, 400)), (0, 2, (0, 0, 400))], [(0, 0, 0, 2), (0, 0, 0, 0), (0, 0, 0, 0)]), (49, [(0, (2, 2, 2)), (1, (0, 0, 0)), (2, (0, 20, 20)), (3, (0, 0, 400)), (4, zFull), (5, (0, -400, 400))], [(0, 1, (0, 0, 400)), (0, 2, (0, 0, 400))], [(0, 0, 0, 1), (0, 0, 0, 0), (0, 0, 0, 0)])])
noncomputable def zC51 : zCt := (96, [(2, 2, 2), (0, 0, 0), (0, 99, 99)], [(0, 0, 99)], [], [(2, 2, 3)], 1, (0, 0, 0, 0), [(5, [(0, (2, 2, 2)), (1, (0, 0, 0)), (2, (0, 99, 99)), (3, (0, 0, 400)), (4, zFull)], [(0, 2, (0, 0, 400))], [(0, 0, 0, 3), (1, 3, 0, 400), (0, 0, 0, 1)]), (32, [(0, (2, 2, 2)), (1, (0, 0, 0)), (2, (0, 99, 99)), (3, (0, 0, 400)), (4, zFull)], [(0, 1, (0, 0, 400)), (0, 2, (0, 0, 400))], [(0, 0, 0, 2), (0, 0, 0, 0), (0, 0, 0, 0)]), (49, [(0, (2, 2, 2)), (1, (0, 0, 0)), (2, (0, 99, 99)), (3, (0, 0, 400)), (4, zFull), (5, (0, -400, 400))], [(0, 1, (0, 0, 400)), (0, 2, (0, 0, 400))], [(0, 0, 0, 1), (0, 0, 0, 0), (0, 0, 0, 0)])])
noncomputable def zC52 : zCt := (96, [(2, 2, 2), (0, 0, 0), (0, 100, 100)], [(0, 0, 100)], [], [(2, 2, 3)], 1, (0, 0, 0, 0), [(5, [(0, (2, 2, 2)), (1, (0, 0, 0)), (2, (0, 100, 100)), (3, (0, 0, 400)), (4, zFull)], [(0, 2, (0, 0, 400))], [(0, 0, 0, 3), (1, 3, 0, 400), (0, 0, 0, 1)]), (32, [(0, (2, 2, 2)), (1, (0, 0, 0)), (2, (0, 100, 100)), (3, (0, 0, 400)), (4, zFull)], [(0, 1, (0, 0, 400)), (0, 2, (0, 0, 400))], [(0, 0, 0, 2), (0, 0, 0, 0), (0, 0, 0, 0)]), (49, [(0, (2, 2, 2)), (1, (0, 0, 0)), (2, (0, 100, 100)), (3, (0, 0, 400)), (4, zFull), (5, (0, -400, 400))], [(0, 1, (0, 0, 400)), (0, 2, (0, 0, 400))], [(0, 0, 0, 1), (0, 0, 0, 0), (0, 0, 0, 0)])])
noncomputable def zC53 : zCt := (91, [(2, 2, 2), (5, 16, 16)], [(0, 0, 1)], [], [(2, 2, 2)], 6, (0, 0, 0, 0), [(23, [(0, (2, 2, 2)), (1, (5, 16, 16)), (2, (0, 4, 400)), (3, (0, 0, 5))], [(0, 1, (0, 4, 400)), (0, 2, (0, 0, 396)), (0, 3, (0, -1, -1))], [(0, 0, 0, 1), (1, 3, 0, 5), (0, 0, 0, 1)])])
noncomputable def zC54 : zCt := (91, [(2, 2, 2), (5, 17, 17)], [(0, 0, 1)], [], [(2, 2, 2)], 6, (0, 0, 0, 0), [(23, [(0, (2, 2, 2)), (1, (5, 17, 17)), (2, (0, 4, 400)), (3, (0, 0, 5))], [(0, 1, (0, 4, 400)), (0, 2, (0, 0, 396)), (0, 3, (0, -1, -1))], [(0, 0, 0, 1), (1, 3, 0, 5), (0, 0, 0, 1)])])
noncomputable def zC55 : zCt := (91, [(2, 2, 2), (5, 18, 18)], [(0, 0, 1)], [], [(2, 2, 2)], 6, (0, 0, 0, 0), [(23, [(0, (2, 2, 2)), (1, (5, 18, 18)), (2, (0, 5, 400)), (3, (0, 0, 5))], [(0, 1, (0, 5, 400)), (0, 2, (0, 0, 395)), (0, 3, (0, -1, -1))], [(0, 0, 0, 1), (1, 3, 0, 5), (0, 0, 0, 1)])])
noncomputable def zC56 : zCt := (91, [(2, 2, 2), (5, 19, 19)], [(0, 0, 1)], [], [(2, 2, 2)], 6, (0, 0, 0, 0), [(23, [(0, (2, 2, 2)), (1, (5, 19, 19)), (2, (0, 6, 400)), (3, (0, 0, 6))], [(0, 1, (0, 6, 400)), (0, 2, (0, 0, 394)), (0, 3, (0, -1, -1))], [(0, 0, 0, 1), (1, 3, 0, 6), (0, 0, 0, 1)])])
noncomputable def zC57 : zCt := (91, [(2, 2, 2), (5, 20, 20)], [(0, 0, 1)], [], [(2, 2, 2)], 6, (0, 0, 0, 0), [(23, [(0, (2, 2, 2)), (1, (5, 20, 20)), (2, (0, 4, 400)), (3, (0, 0, 5))], [(0, 1, (0, 4, 400)), (0, 2, (0, 0, 396)), (0, 3, (0, -1, -1))], [(0, 0, 0, 1), (1, 3, 0, 5), (0, 0, 0, 1)])])
noncomputable def zC58 : zCt := (2, [(2, 8, 8), (2, 2, 2)], [], [], [(2, 2, 3), (8, 7, 7), (8, 13, 16)], 7, (0, 0, 0, 0), [])
noncomputable def zC59 : zCt := (96, [(2, 2, 2), (0, 0, 0), (0, -1, 5)], [(0, 0, 5)], [], [(2, 2, 3)], 1, (0, 0, 0, 0), [(5, [(0, (2, 2, 2)), (1, (0, 0, 0)), (2, (0, -1, 5)), (3, (0, 0, 400)), (4, zFull)], [(0, 2, (0, 0, 400))], [(0, 0, 0, 3), (1, 3, 0, 400), (0, 0, 0, 1)]), (32, [(0, (2, 2, 2)), (1, (0, 0, 0)), (2, (0, -1, 5)), (3, (0, 0, 400)), (4, zFull)], [(0, 1, (0, 0, 400)), (0, 2, (0, 0, 400))], [(0, 0, 0, 2), (0, 0, 0, 0), (0, 0, 0, 0)]), (49, [(0, (2, 2, 2)), (1, (0, 0, 0)), (2, (0, -1, 5)), (3, (0, 0, 400)), (4, zFull), (5, (0, -400, 400))], [(0, 1, (0, 0, 400)), (0, 2, (0, 0, 400))], [(0, 0, 0, 1), (0, 0, 0, 0), (0, 0, 0, 0)])])
noncomputable def zC60 : zCt := (96, [(2, 2, 2), (0, 1, 1), (0, 9, 9)], [(0, 1, 9)], [], [(2, 2, 3)], 1, (0, 0, 0, 0), [(5, [(0, (2, 2, 2)), (1, (0, 1, 1)), (2, (0, 9, 9)), (3, (0, 0, 400)), (4, zFull)], [(0, 2, (0, 0, 400))], [(0, 0, 0, 3), (1, 3, 0, 400), (0, 0, 0, 1)]), (32, [(0, (2, 2, 2)), (1, (0, 1, 1)), (2, (0, 9, 9)), (3, (0, 0, 400)), (4, zFull)], [(0, 1, (0, 0, 400)), (0, 2, (0, 0, 400))], [(0, 0, 0, 2), (0, 0, 0, 0), (0, 0, 0, 0)]), (49, [(0, (2, 2, 2)), (1, (0, 1, 1)), (2, (0, 9, 9)), (3, (0, 0, 400)), (4, zFull), (5, (0, -400, 400))], [(0, 1, (0, 0, 400)), (0, 2, (0, 0, 400))], [(0, 0, 0, 1), (0, 0, 0, 0), (0, 0, 0, 0)])])
noncomputable def zC61 : zCt := (91, [(2, 2, 2), (5, 24, 24)], [(0, 0, 1)], [], [(2, 2, 2)], 6, (0, 0, 0, 0), [(23, [(0, (2, 2, 2)), (1, (5, 24, 24)), (2, (0, 4, 400)), (3, (0, 0, 5))], [(0, 1, (0, 4, 400)), (0, 2, (0, 0, 396)), (0, 3, (0, -1, -1))], [(0, 0, 0, 1), (1, 3, 0, 5), (0, 0, 0, 1)])])
noncomputable def zC62 : zCt := (91, [(2, 2, 2), (5, 25, 25)], [(0, 0, 1)], [], [(2, 2, 2)], 6, (0, 0, 0, 0), [(23, [(0, (2, 2, 2)), (1, (5, 25, 25)), (2, (0, 4, 400)), (3, (0, 0, 5))], [(0, 1, (0, 4, 400)), (0, 2, (0, 0, 396)), (0, 3, (0, -1, -1))], [(0, 0, 0, 1), (1, 3, 0, 5), (0, 0, 0, 1)])])
noncomputable def zC63 : zCt := (4, [(2, 8, 8), (2, 2, 2)], [], [], [(2, 2, 3), (11, 2, 3), (12, 0, 7)], 8, (0, 0, 0, 0), [(7, [(0, (2, 8, 8)), (1, (2, 2, 2)), (2, (0, 0, 5))], [(0, 1, (2, 9, 9))], [(0, 0, 0, 1)])])
noncomputable def zC64 : zCt := (96, [(2, 2, 2), (0, 0, 0), (0, -1, 4)], [(0, 0, 4)], [], [(2, 2, 3)], 1, (0, 0, 0, 0), [(5, [(0, (2, 2, 2)), (1, (0, 0, 0)), (2, (0, -1, 4)), (3, (0, 0, 400)), (4, zFull)], [(0, 2, (0, 0, 400))], [(0, 0, 0, 3), (1, 3, 0, 400), (0, 0, 0, 1)]), (32, [(0, (2, 2, 2)), (1, (0, 0, 0)), (2, (0, -1, 4)), (3, (0, 0, 400)), (4, zFull)], [(0, 1, (0, 0, 400)), (0, 2, (0, 0, 400))], [(0, 0, 0, 2), (0, 0, 0, 0), (0, 0, 0, 0)]), (49, [(0, (2, 2, 2)), (1, (0, 0, 0)), (2, (0, -1, 4)), (3, (0, 0, 400)), (4, zFull), (5, (0, -400, 400))], [(0, 1, (0, 0, 400)), (0, 2, (0, 0, 400))], [(0, 0, 0, 1), (0, 0, 0, 0), (0, 0, 0, 0)])])
noncomputable def zC65 : zCt := (96, [(2, 2, 2), (0, 0, 0), (0, 5, 5)], [(0, 0, 5)], [], [(2, 2, 3)], 1, (0, 0, 0, 0), [(5, [(0, (2, 2, 2)), (1, (0, 0, 0)), (2, (0, 5, 5)), (3, (0, 0, 400)), (4, zFull)], [(0, 2, (0, 0, 400))], [(0, 0, 0, 3), (1, 3, 0, 400), (0, 0, 0, 1)]), (32, [(0, (2, 2, 2)), (1, (0, 0, 0)), (2, (0, 5, 5)), (3, (0, 0, 400)), (4, zFull)], [(0, 1, (0, 0, 400)), (0, 2, (0, 0, 400))], [(0, 0, 0, 2), (0, 0, 0, 0), (0, 0, 0, 0)]), (49, [(0, (2, 2, 2)), (1, (0, 0, 0)), (2, (0, 5, 5)), (3, (0, 0, 400)), (4, zFull), (5, (0, -400, 400))], [(0, 1, (0, 0, 400)), (0, 2, (0, 0, 400))], [(0, 0, 0, 1), (0, 0, 0, 0), (0, 0, 0, 0)])])
noncomputable def zC66 : zCt := (91, [(2, 2, 2), (5, 11, 11)], [(0, 0, 1)], [], [(2, 2, 2)], 6, (0, 0, 0, 0), [(23, [(0, (2, 2, 2)), (1, (5, 11, 11)), (2, (0, 6, 400)), (3, (0, 0, 6))], [(0, 1, (0, 6, 400)), (0, 2, (0, 0, 394)), (0, 3, (0, -1, -1))], [(0, 0, 0, 1), (1, 3, 0, 6), (0, 0, 0, 1)])])
noncomputable def zC67 : zCt := (91, [(2, 2, 2), (5, 12, 12)], [(0, 0, 1)], [], [(2, 2, 2)], 6, (0, 0, 0, 0), [(23, [(0, (2, 2, 2)), (1, (5, 12, 12)), (2, (0, 5, 400)), (3, (0, 0, 5))], [(0, 1, (0, 5, 400)), (0, 2, (0, 0, 395)), (0, 3, (0, -1, -1))], [(0, 0, 0, 1), (1, 3, 0, 5), (0, 0, 0, 1)])])
noncomputable def zC68 : zCt := (91, [(2, 2, 2), (5, 14, 14)], [(0, 0, 1)], [], [(2, 2, 2)], 6, (0, 0, 0, 0), [(23, [(0, (2, 2, 2)), (1, (5, 14, 14)), (2, (0, 4, 400)), (3, (0, 0, 5))], [(0, 1, (0, 4, 400)), (0, 2, (0, 0, 396)), (0, 3, (0, -1, -1))], [(0, 0, 0, 1), (1, 3, 0, 5), (0, 0, 0, 1)])])
noncomputable def zC69 : zCt := (1, [(2, 8, 8), (2, 2, 2)], [], [], [(2, 2, 3), (8, 7, 7), (8, 13, 16), (9, 4, 4), (10, 0, 5), (11, 2, 3), (12, 0, 7), (16, 0, 23)], 10, (0, 0, 0, 0), [(12, [(0, (2, 8, 8)), (1, (2, 2, 2))], [(0, 1, (2, 9, 9))], [(0, 0, 0, 2)]), (24, [(0, (2, 8, 8)), (1, (2, 2, 2))], [(0, 1, (2, 9, 9)), (0, 2, (2, 11, 11))], [(0, 0, 0, 1)])])
noncomputable def zC70 : zCt := (0, [(2, 8, 8), (2, 2, 2)], [zFull], [], [(2, 2, 3), (8, 7, 7), (8, 13, 16), (9, 4, 4), (10, 0, 5), (11, 2, 3), (12, 0, 7), (16, 0, 23)], 11, (0, 0, 0, 0), [(7, [(0, (2, 8, 8)), (1, (2, 2, 2)), (2, (0, 0, 1)), (3, (0, 0, 14))], [(1, 1, (0, 0, 400)), (1, 3, zFull)], [(0, 0, 0, 1), (1, 3, 0, 14), (0, 0, 0, 1)])])
noncomputable def zC71 : zCt := (23, [(2, 8, 8), (2, 8, 8)], [], [], [(8, 5, 17), (9, 4, 4), (10, 0, 5), (11, 2, 3), (12, 0, 7), (13, 1, 2), (14, 0, 299), (16, 0, 23)], 7, (0, 0, 0, 0), [])
noncomputable def zC72 : zCt := (120, [(2, 1, 1)], [zFull], [0, 1], [(1, 7, 7), (2, 1, 3), (8, 5, 17), (9, 4, 4), (10, 0, 5), (11, 2, 3), (12, 0, 7), (13, 1, 2), (14, 0, 299), (16, 0, 23), (17, 2, 2)], 12, (0, 0, 1, 6), [])
noncomputable def zC73 : zCt := (91, [(2, 2, 2), (5, 36, 36)], [(0, 0, 1)], [], [(2, 2, 2)], 6, (0, 0, 0, 0), [(23, [(0, (2, 2, 2)), (1, (5, 36, 36)), (2, (0, 6, 400)), (3, (0, 0, 6))], [(0, 1, (0, 6, 400)), (0, 2, (0, 0, 394)), (0, 3, (0, -1, -1))], [(0, 0, 0, 1), (1, 3, 0, 6), (0, 0, 0, 1)])])
noncomputable def zC74 : zCt := (91, [(2, 2, 2), (5, 37, 37)], [(0, 0, 1)], [], [(2, 2, 2)], 6, (0, 0, 0, 0), [(23, [(0, (2, 2, 2)), (1, (5, 37, 37)), (2, (0, 4, 400)), (3, (0, 0, 5))], [(0, 1, (0, 4, 400)), (0, 2, (0, 0, 396)), (0, 3, (0, -1, -1))], [(0, 0, 0, 1), (1, 3, 0, 5), (0, 0, 0, 1)])])
noncomputable def zC75 : zCt := (91, [(2, 2, 2), (5, 38, 38)], [(0, 0, 1)], [], [(2, 2, 2)], 6, (0, 0, 0, 0), [(23, [(0, (2, 2, 2)), (1, (5, 38, 38)), (2, (0, 4, 400)), (3, (0, 0, 5))], [(0, 1, (0, 4, 400)), (0, 2, (0, 0, 396)), (0, 3, (0, -1, -1))], [(0, 0, 0, 1), (1, 3, 0, 5), (0, 0, 0, 1)])])
noncomputable def zC76 : zCt := (91, [(2, 2, 2), (5, 39, 39)], [(0, 0, 1)], [], [(2, 2, 2)], 6, (0, 0, 0, 0), [(23, [(0, (2, 2, 2)), (1, (5, 39, 39)), (2, (0, 4, 400)), (3, (0, 0, 5))], [(0, 1, (0, 4, 400)), (0, 2, (0, 0, 396)), (0, 3, (0, -1, -1))], [(0, 0, 0, 1), (1, 3, 0, 5), (0, 0, 0, 1)])])
noncomputable def zC77 : zCt := (91, [(2, 2, 2), (5, 40, 40)], [(0, 0, 1)], [], [(2, 2, 2)], 6, (0, 0, 0, 0), [(23, [(0, (2, 2, 2)), (1, (5, 40, 40)), (2, (0, 7, 400)), (3, (0, 0, 7))], [(0, 1, (0, 7, 400)), (0, 2, (0, 0, 393)), (0, 3, (0, -1, -1))], [(0, 0, 0, 1), (1, 3, 0, 7), (0, 0, 0, 1)])])
noncomputable def zC78 : zCt := (91, [(2, 2, 2), (5, 41, 41)], [(0, 0, 1)], [], [(2, 2, 2)], 6, (0, 0, 0, 0), [(23, [(0, (2, 2, 2)), (1, (5, 41, 41)), (2, (0, 4, 400)), (3, (0, 0, 5))], [(0, 1, (0, 4, 400)), (0, 2, (0, 0, 396)), (0, 3, (0, -1, -1))], [(0, 0, 0, 1), (1, 3, 0, 5), (0, 0, 0, 1)])])
noncomputable def zC79 : zCt := (53, [(2, 4, 4), (2, 2, 2)], [], [], [(2, 2, 3), (4, 5, 5), (7, 0, 399)], 7, (0, 0, 0, 0), [(10, [(0, (2, 4, 4)), (1, (2, 2, 2))], [(1, 3, zFull)], [(0, 0, 0, 1)])])
noncomputable def zC80 : zCt := (52, [(2, 4, 4), (2, 2, 2)], [], [], [(2, 2, 3), (4, 5, 5), (7, 0, 399)], 8, (0, 0, 0, 0), [(5, [(0, (2, 4, 4)), (1, (2, 2, 2)), (2, (0, 0, 400))], [], [(0, 0, 0, 1), (1, 2, 0, 400), (0, 0, 0, 1)])])
noncomputable def zC81 : zCt := (91, [(2, 2, 2), (5, 34, 34)], [(0, 0, 1)], [], [(2, 2, 2)], 6, (0, 0, 0, 0), [(23, [(0, (2, 2, 2)), (1, (5, 34, 34)), (2, (0, 5, 400)), (3, (0, 0, 5))], [(0, 1, (0, 5, 400)), (0, 2, (0, 0, 395)), (0, 3, (0, -1, -1))], [(0, 0, 0, 1), (1, 3, 0, 5), (0, 0, 0, 1)])])
noncomputable def zC82 : zCt := (91, [(2, 2, 2), (5, 35, 35)], [(0, 0, 1)], [], [(2, 2, 2)], 6, (0, 0, 0, 0), [(23, [(0, (2, 2, 2)), (1, (5, 35, 35)), (2, (0, 6, 400)), (3, (0, 0, 6))], [(0, 1, (0, 6, 400)), (0, 2, (0, 0, 394)), (0, 3, (0, -1, -1))], [(0, 0, 0, 1), (1, 3, 0, 6), (0, 0, 0, 1)])])
noncomputable def zC83 : zCt := (51, [(2, 4, 4), (2, 2, 2), (0, 6, 6)], [], [], [(2, 2, 3), (4, 5, 5), (7, 0, 399)], 9, (0, 0, 0, 0), [(57, [(0, (2, 4, 4)), (1, (2, 2, 2)), (2, (0, 6, 6)), (3, (0, 0, 1))], [(1, 3, zFull)], [(0, 0, 0, 2)]), (62, [(0, (2, 4, 4)), (1, (2, 2, 2)), (2, (0, 6, 6)), (3, (0, 0, 1))], [(1, 3, zFull)], [(0, 0, 0, 1)])])
noncomputable def zC84 : zCt := (91, [(2, 2, 2), (5, 31, 31)], [(0, 0, 1)], [], [(2, 2, 2)], 6, (0, 0, 0, 0), [(23, [(0, (2, 2, 2)), (1, (5, 31, 31)), (2, (0, 3, 400)), (3, (0, 0, 3))], [(0, 1, (0, 3, 400)), (0, 2, (0, 0, 397)), (0, 3, (0, -1, -1))], [(0, 0, 0, 1), (1, 3, 0, 3), (0, 0, 0, 1)])])
noncomputable def zC85 : zCt := (91, [(2, 2, 2), (5, 32, 32)], [(0, 0, 1)], [], [(2, 2, 2)], 6, (0, 0, 0, 0), [(23, [(0, (2, 2, 2)), (1, (5, 32, 32)), (2, (0, 2, 400)), (3, (0, 0, 2))], [(0, 1, (0, 2, 400)), (0, 2, (0, 0, 398)), (0, 3, (0, -1, -1))], [(0, 0, 0, 1), (1, 3, 0, 2), (0, 0, 0, 1)])])
noncomputable def zC86 : zCt := (50, [(2, 4, 4), (2, 2, 2), (0, 6, 6)], [], [], [(2, 2, 3), (4, 5, 5), (7, 0, 399)], 10, (0, 0, 0, 0), [(8, [(0, (2, 4, 4)), (1, (2, 2, 2)), (2, (0, 6, 6)), (3, (0, 0, 1)), (4, (0, 0, 400))], [], [(0, 0, 0, 2), (1, 4, 0, 400), (0, 0, 0, 2)]), (32, [(0, (2, 4, 4)), (1, (2, 2, 2)), (2, (0, 6, 6)), (3, (0, 0, 1)), (4, (0, 0, 399))], [], [(0, 0, 0, 2), (1, 4, 0, 400), (0, 0, 0, 1)]), (40, [(0, (2, 4, 4)), (1, (2, 2, 2)), (2, (0, 6, 6)), (3, (0, 0, 1)), (4, (0, 0, 400))], [], [(0, 0, 0, 1), (0, 0, 0, 0), (0, 0, 0, 0)])])
noncomputable def zC87 : zCt := (91, [(2, 2, 2), (5, 33, 33)], [(0, 0, 1)], [], [(2, 2, 2)], 6, (0, 0, 0, 0), [(23, [(0, (2, 2, 2)), (1, (5, 33, 33)), (2, (0, 3, 400)), (3, (0, 0, 3))], [(0, 1, (0, 3, 400)), (0, 2, (0, 0, 397)), (0, 3, (0, -1, -1))], [(0, 0, 0, 1), (1, 3, 0, 3), (0, 0, 0, 1)])])
noncomputable def zC88 : zCt := (51, [(2, 4, 4), (2, 2, 2), (0, 5, 5)], [], [], [(2, 2, 3), (4, 5, 5), (7, 0, 399)], 11, (0, 0, 0, 0), [(34, [(0, (2, 4, 4)), (1, (2, 2, 2)), (2, (0, 5, 5))], [(1, 3, zFull)], [(0, 0, 0, 3)]), (57, [(0, (2, 4, 4)), (1, (2, 2, 2)), (2, (0, 5, 5)), (3, (0, 0, 1))], [(1, 3, zFull)], [(0, 0, 0, 2)]), (62, [(0, (2, 4, 4)), (1, (2, 2, 2)), (2, (0, 5, 5)), (3, (0, 0, 1))], [(1, 3, zFull)], [(0, 0, 0, 1)])])
noncomputable def zC89 : zCt := (50, [(2, 4, 4), (2, 2, 2), (0, 5, 5)], [], [], [(2, 2, 3), (4, 5, 5), (7, 0, 399)], 12, (0, 0, 0, 0), [(8, [(0, (2, 4, 4)), (1, (2, 2, 2)), (2, (0, 5, 5)), (3, (0, 0, 1)), (4, (0, 0, 400))], [], [(0, 0, 0, 2), (1, 4, 0, 400), (0, 0, 0, 2)]), (32, [(0, (2, 4, 4)), (1, (2, 2, 2)), (2, (0, 5, 5)), (3, (0, 0, 1)), (4, (0, 0, 399))], [], [(0, 0, 0, 2), (1, 4, 0, 400), (0, 0, 0, 1)]), (40, [(0, (2, 4, 4)), (1, (2, 2, 2)), (2, (0, 5, 5)), (3, (0, 0, 1)), (4, (0, 0, 400))], [], [(0, 0, 0, 1), (0, 0, 0, 0), (0, 0, 0, 0)])])
noncomputable def zC90 : zCt := (51, [(2, 4, 4), (2, 2, 2), (0, 4, 4)], [], [], [(2, 2, 3), (4, 5, 5), (7, 0, 399)], 13, (0, 0, 0, 0), [(34, [(0, (2, 4, 4)), (1, (2, 2, 2)), (2, (0, 4, 4))], [(1, 3, zFull)], [(0, 0, 0, 3)]), (57, [(0, (2, 4, 4)), (1, (2, 2, 2)), (2, (0, 4, 4)), (3, (0, 0, 1))], [(1, 3, zFull)], [(0, 0, 0, 2)]), (62, [(0, (2, 4, 4)), (1, (2, 2, 2)), (2, (0, 4, 4)), (3, (0, 0, 1))], [(1, 3, zFull)], [(0, 0, 0, 1)])])
noncomputable def zC91 : zCt := (50, [(2, 4, 4), (2, 2, 2), (0, 4, 4)], [], [], [(2, 2, 3), (4, 5, 5), (7, 0, 399)], 14, (0, 0, 0, 0), [(8, [(0, (2, 4, 4)), (1, (2, 2, 2)), (2, (0, 4, 4)), (3, (0, 0, 1)), (4, (0, 0, 400))], [], [(0, 0, 0, 2), (1, 4, 0, 400), (0, 0, 0, 2)]), (32, [(0, (2, 4, 4)), (1, (2, 2, 2)), (2, (0, 4, 4)), (3, (0, 0, 1)), (4, (0, 0, 399))], [], [(0, 0, 0, 2), (1, 4, 0, 400), (0, 0, 0, 1)]), (40, [(0, (2, 4, 4)), (1, (2, 2, 2)), (2, (0, 4, 4)), (3, (0, 0, 1)), (4, (0, 0, 400))], [], [(0, 0, 0, 1), (0, 0, 0, 0), (0, 0, 0, 0)])])
noncomputable def zC92 : zCt := (51, [(2, 4, 4), (2, 2, 2), (0, 3, 3)], [], [], [(2, 2, 3), (4, 5, 5), (7, 0, 399)], 15, (0, 0, 0, 0), [(34, [(0, (2, 4, 4)), (1, (2, 2, 2)), (2, (0, 3, 3))], [(1, 3, zFull)], [(0, 0, 0, 3)]), (57, [(0, (2, 4, 4)), (1, (2, 2, 2)), (2, (0, 3, 3)), (3, (0, 0, 1))], [(1, 3, zFull)], [(0, 0, 0, 2)]), (62, [(0, (2, 4, 4)), (1, (2, 2, 2)), (2, (0, 3, 3)), (3, (0, 0, 1))], [(1, 3, zFull)], [(0, 0, 0, 1)])])
noncomputable def zC93 : zCt := (50, [(2, 4, 4), (2, 2, 2), (0, 3, 3)], [], [], [(2, 2, 3), (4, 5, 5), (7, 0, 399)], 16, (0, 0, 0, 0), [(8, [(0, (2, 4, 4)), (1, (2, 2, 2)), (2, (0, 3, 3)), (3, (0, 0, 1)), (4, (0, 0, 400))], [], [(0, 0, 0, 2), (1, 4, 0, 400), (0, 0, 0, 2)]), (32, [(0, (2, 4, 4)), (1, (2, 2, 2)), (2, (0, 3, 3)), (3, (0, 0, 1)), (4, (0, 0, 399))], [], [(0, 0, 0, 2), (1, 4, 0, 400), (0, 0, 0, 1)]), (40, [(0, (2, 4, 4)), (1, (2, 2, 2)), (2, (0, 3, 3)), (3, (0, 0, 1)), (4, (0, 0, 400))], [], [(0, 0, 0, 1), (0, 0, 0, 0), (0, 0, 0, 0)])])
noncomputable def zC94 : zCt := (51, [(2, 4, 4), (2, 2, 2), (0, 2, 2)], [], [], [(2, 2, 3), (4, 5, 5), (7, 0, 399)], 17, (0, 0, 0, 0), [(34, [(0, (2, 4, 4)), (1, (2, 2, 2)), (2, (0, 2, 2))], [(1, 3, zFull)], [(0, 0, 0, 3)]), (57, [(0, (2, 4, 4)), (1, (2, 2, 2)), (2, (0, 2, 2)), (3, (0, 0, 1))], [(1, 3, zFull)], [(0, 0, 0, 2)]), (62, [(0, (2, 4, 4)), (1, (2, 2, 2)), (2, (0, 2, 2)), (3, (0, 0, 1))], [(1, 3, zFull)], [(0, 0, 0, 1)])])
noncomputable def zC95 : zCt := (50, [(2, 4, 4), (2, 2, 2), (0, 2, 2)], [], [], [(2, 2, 3), (4, 5, 5), (7, 0, 399)], 18, (0, 0, 0, 0), [(8, [(0, (2, 4, 4)), (1, (2, 2, 2)), (2, (0, 2, 2)), (3, (0, 0, 1)), (4, (0, 0, 400))], [], [(0, 0, 0, 2), (1, 4, 0, 400), (0, 0, 0, 2)]), (32, [(0, (2, 4, 4)), (1, (2, 2, 2)), (2, (0, 2, 2)), (3, (0, 0, 1)), (4, (0, 0, 399))], [], [(0, 0, 0, 2), (1, 4, 0, 400), (0, 0, 0, 1)]), (40, [(0, (2, 4, 4)), (1, (2, 2, 2)), (2, (0, 2, 2)), (3, (0, 0, 1)), (4, (0, 0, 400))], [], [(0, 0, 0, 1), (0, 0, 0, 0), (0, 0, 0, 0)])])
noncomputable def zC96 : zCt := (51, [(2, 4, 4), (2, 2, 2), (0, 1, 1)], [], [], [(2, 2, 3), (4, 5, 5), (7, 0, 399)], 19, (0, 0, 0, 0), [(34, [(0, (2, 4, 4)), (1, (2, 2, 2)), (2, (0, 1, 1))], [(1, 3, zFull)], [(0, 0, 0, 3)]), (57, [(0, (2, 4, 4)), (1, (2, 2, 2)), (2, (0, 1, 1)), (3, (0, 0, 1))], [(1, 3, zFull)], [(0, 0, 0, 2)]), (62, [(0, (2, 4, 4)), (1, (2, 2, 2)), (2, (0, 1, 1)), (3, (0, 0, 1))], [(1, 3, zFull)], [(0, 0, 0, 1)])])
noncomputable def zC97 : zCt := (50, [(2, 4, 4), (2, 2, 2), (0, 1, 1)], [], [], [(2, 2, 3), (4, 5, 5), (7, 0, 399)], 20, (0, 0, 0, 0), [(8, [(0, (2, 4, 4)), (1, (2, 2, 2)), (2, (0, 1, 1)), (3, (0, 0, 1)), (4, (0, 0, 400))], [], [(0, 0, 0, 2), (1, 4, 0, 400), (0, 0, 0, 2)]), (32, [(0, (2, 4, 4)), (1, (2, 2, 2)), (2, (0, 1, 1)), (3, (0, 0, 1)), (4, (0, 0, 399))], [], [(0, 0, 0, 2), (1, 4, 0, 400), (0, 0, 0, 1)]), (40, [(0, (2, 4, 4)), (1, (2, 2, 2)), (2, (0, 1, 1)), (3, (0, 0, 1)), (4, (0, 0, 400))], [], [(0, 0, 0, 1), (0, 0, 0, 0), (0, 0, 0, 0)])])
noncomputable def zC98 : zCt := (51, [(2, 4, 4), (2, 2, 2), (0, 0, 0)], [], [], [(2, 2, 3), (4, 5, 5), (7, 0, 399)], 21, (0, 0, 0, 0), [(34, [(0, (2, 4, 4)), (1, (2, 2, 2)), (2, (0, 0, 0))], [(1, 3, zFull)], [(0, 0, 0, 3)]), (57, [(0, (2, 4, 4)), (1, (2, 2, 2)), (2, (0, 0, 0)), (3, (0, 0, 1))], [(1, 3, zFull)], [(0, 0, 0, 2)]), (62, [(0, (2, 4, 4)), (1, (2, 2, 2)), (2, (0, 0, 0)), (3, (0, 0, 1))], [(1, 3, zFull)], [(0, 0, 0, 1)])])
noncomputable def zC99 : zCt := (50, [(2, 4, 4), (2, 2, 2), (0, 0, 0)], [], [], [(2, 2, 3), (4, 5, 5), (7, 0, 399)], 22, (0, 0, 0, 0), [(8, [(0, (2, 4, 4)), (1, (2, 2, 2)), (2, (0, 0, 0)), (3, (0, 0, 1)), (4, (0, 0, 400))], [], [(0, 0, 0, 2), (1, 4, 0, 400), (0, 0, 0, 2)]), (32, [(0, (2, 4, 4)), (1, (2, 2, 2)), (2, (0, 0, 0)), (3, (0, 0, 1)), (4, (0, 0, 399))], [], [(0, 0, 0, 2), (1, 4, 0, 400), (0, 0, 0, 1)]), (40, [(0, (2, 4, 4)), (1, (2, 2, 2)), (2, (0, 0, 0)), (3, (0, 0, 1)), (4, (0, 0, 400))], [], [(0, 0, 0, 1), (0, 0, 0, 0), (0, 0, 0, 0)])])
noncomputable def zC100 : zCt := (91, [(2, 2, 2), (5, 27, 27)], [(0, 0, 1)], [], [(2, 2, 2)], 6, (0, 0, 0, 0), [(23, [(0, (2, 2, 2)), (1, (5, 27, 27)), (2, (0, 2, 400)), (3, (0, 0, 2))], [(0, 1, (0, 2, 400)), (0, 2, (0, 0, 398)), (0, 3, (0, -1, -1))], [(0, 0, 0, 1), (1, 3, 0, 2), (0, 0, 0, 1)])])
noncomputable def zC101 : zCt := (91, [(2, 2, 2), (5, 28, 28)], [(0, 0, 1)], [], [(2, 2, 2)], 6, (0, 0, 0, 0), [(23, [(0, (2, 2, 2)), (1, (5, 28, 28)), (2, (0, 4, 400)), (3, (0, 0, 5))], [(0, 1, (0, 4, 400)), (0, 2, (0, 0, 396)), (0, 3, (0, -1, -1))], [(0, 0, 0, 1), (1, 3, 0, 5), (0, 0, 0, 1)])])
noncomputable def zC102 : zCt := (91, [(2, 2, 2), (5, 29, 29)], [(0, 0, 1)], [], [(2, 2, 2)], 6, (0, 0, 0, 0), [(23, [(0, (2, 2, 2)), (1, (5, 29, 29)), (2, (0, 4, 400)), (3, (0, 0, 5))], [(0, 1, (0, 4, 400)), (0, 2, (0, 0, 396)), (0, 3, (0, -1, -1))], [(0, 0, 0, 1), (1, 3, 0, 5), (0, 0, 0, 1)])])
noncomputable def zC103 : zCt := (91, [(2, 2, 2), (5, 30, 30)], [(0, 0, 1)], [], [(2, 2, 2)], 6, (0, 0, 0, 0), [(23, [(0, (2, 2, 2)), (1, (5, 30, 30)), (2, (0, 4, 400)), (3, (0, 0, 5))], [(0, 1, (0, 4, 400)), (0, 2, (0, 0, 396)), (0, 3, (0, -1, -1))], [(0, 0, 0, 1), (1, 3, 0, 5), (0, 0, 0, 1)])])
noncomputable def zC104 : zCt := (47, [(2, 4, 4), (2, 2, 2)], [zFull], [], [(2, 2, 3), (4, 4, 5), (5, 0, 11), (6, 0, 11), (7, 0, 399)], 23, (0, 0, 0, 0), [(13, [(0, (2, 4, 4)), (1, (2, 2, 2)), (2, (0, 0, 1)), (3, (0, 0, 12))], [(0, 4, (0, 0, 12)), (0, 5, (0, 0, 400)), (1, 1, (0, 0, 400)), (1, 3, zFull)], [(0, 0, 0, 1), (1, 3, 0, 12), (0, 0, 0, 3)]), (25, [(0, (2, 4, 4)), (1, (2, 2, 2)), (2, (0, 1, 1)), (3, (0, 0, 11))], [(0, 0, (2, 5, 5)), (0, 4, (0, 0, 12)), (0, 5, (0, 0, 400)), (1, 1, (0, 0, 400)), (1, 3, zFull)], [(0, 0, 0, 1), (1, 3, 0, 12), (0, 0, 0, 2)]), (41, [(0, (2, 4, 4)), (1, (2, 2, 2)), (2, (0, 1, 1)), (3, (0, 0, 11))], [(0, 0, (2, 5, 5)), (0, 1, (2, 5, 5)), (0, 4, (0, 0, 12)), (1, 1, (0, 0, 400))], [(0, 0, 0, 1), (1, 3, 0, 12), (0, 0, 0, 1)])])
noncomputable def zC105 : zCt := (122, [(2, 1, 1)], [zFull], [], [], 0, (0, 0, 0, 0), [])
noncomputable def zC106 : zCt := (123, [(2, 1, 1), zFull], [zFull], [2], [], 7, (0, 0, 1, 6), [])
noncomputable def zC107 : zCt := (28, [(2, 8, 8), zFull], [zFull], [], [], 0, (0, 0, 0, 0), [(4, [(0, (2, 8, 8)), (1, zFull), (2, zFull), (3, (0, 0, 24))], [], [(0, 0, 0, 1), (1, 3, 0, 24), (0, 0, 0, 1)])])
noncomputable def zC108 : zCt := (68, [(2, 8, 8), zFull], [(0, -1, 23)], [], [], 2, (0, 0, 0, 0), [(2, [(0, (2, 8, 8)), (1, zFull), (2, (0, 0, 24))], [], [(0, 0, 0, 1), (1, 2, 0, 24), (0, 0, 0, 1)])])
noncomputable def zC109 : zCt := (65, [zFull], [(0, 0, 24)], [], [], 1, (0, 0, 0, 0), [(4, [(0, zFull), (1, zFull), (2, (0, 0, 24))], [], [(0, 0, 0, 1), (1, 2, 0, 24), (0, 0, 0, 1)])])
noncomputable def zC110 : zCt := (124, [(2, 1, 1), zFull, zFull], [zFull], [2, 3], [], 7, (0, 0, 1, 6), [])
noncomputable def zC111 : zCt := (109, [(2, 11, 11), zFull], [zFull], [], [], 0, (0, 0, 0, 0), [(4, [(0, (2, 11, 11)), (1, zFull), (2, zFull), (3, (0, 0, 8))], [], [(0, 0, 0, 1), (1, 3, 0, 8), (0, 0, 0, 1)])])
noncomputable def zC112 : zCt := (33, [(2, 8, 8), zFull, zFull], [], [], [(12, 0, 7)], 2, (0, 0, 0, 0), [])
noncomputable def zC113 : zCt := (62, [(2, 17, 17), (2, 8, 8)], [], [], [(8, 5, 17), (9, 4, 4), (10, 0, 5), (11, 2, 3), (12, 0, 7), (13, 1, 2), (14, 0, 299), (16, 0, 23), (17, 1, 2)], 8, (0, 0, 0, 0), [])
noncomputable def zC114 : zCt := (127, [(2, 1, 1), zFull, zFull], [zFull], [0, 2, 4], [(8, 5, 17), (9, 4, 4), (10, 0, 5), (11, 2, 3), (12, 0, 7), (13, 1, 2), (14, 0, 299), (16, 0, 23), (17, 1, 2)], 9, (0, 0, 1, 6), [(33, [(0, (2, 1, 1)), (1, (0, 0, 23)), (2, (0, 0, 5)), (3, zFull)], [(0, 2, (2, 8, 8))], [(0, 0, 0, 3)]), (46, [(0, (2, 1, 1)), (1, (0, 0, 23)), (2, (0, 0, 5)), (3, zFull)], [(0, 2, (2, 8, 8)), (0, 5, (2, 17, 17))], [(0, 0, 0, 2)]), (54, [(0, (2, 1, 1)), (1, (0, 0, 23)), (2, (0, 0, 5)), (3, zFull)], [(0, 2, (2, 8, 8)), (0, 5, (2, 17, 17))], [(0, 0, 0, 1)])])
noncomputable def zC115 : zCt := (128, [(2, 1, 1), zFull, zFull], [zFull], [2, 4], [(8, 5, 17), (9, 4, 4), (10, 0, 5), (11, 2, 3), (12, 0, 7), (13, 1, 2), (14, 0, 299), (16, 0, 23), (17, 1, 2)], 9, (0, 0, 1, 6), [(27, [(0, (2, 1, 1)), (1, (0, 0, 23)), (2, (0, 0, 5))], [(0, 2, (2, 8, 8))], [(0, 0, 0, 2)]), (40, [(0, (2, 1, 1)), (1, (0, 0, 23)), (2, (0, 0, 5))], [(0, 2, (2, 8, 8)), (0, 5, (2, 17, 17))], [(0, 0, 0, 1)])])
noncomputable def zC116 : zCt := (129, [(2, 1, 1), zFull, zFull], [zFull], [0, 2, 4], [(8, 5, 17), (9, 4, 4), (10, 0, 5), (11, 2, 3), (12, 0, 7), (13, 1, 2), (14, 0, 299), (16, 0, 23), (17, 1, 2)], 9, (0, 0, 1, 6), [])
noncomputable def zC117 : zCt := (130, [(2, 1, 1), zFull], [zFull], [2, 4], [(8, 5, 17), (9, 4, 4), (10, 0, 5), (11, 2, 3), (12, 0, 7), (13, 1, 2), (14, 0, 299), (16, 0, 23), (17, 1, 2)], 9, (0, 0, 1, 6), [])
noncomputable def zC118 : zCt := (131, [(2, 1, 1), zFull], [zFull], [2, 4], [(8, 5, 17), (9, 4, 4), (10, 0, 5), (11, 2, 3), (12, 0, 7), (13, 1, 2), (14, 0, 299), (16, 0, 23), (17, 1, 2)], 9, (0, 0, 1, 6), [])
noncomputable def zC119 : zCt := (132, [(2, 1, 1), zFull], [zFull], [2, 4], [(8, 5, 17), (9, 4, 4), (10, 0, 5), (11, 2, 3), (12, 0, 7), (13, 1, 2), (14, 0, 299), (16, 0, 23), (17, 1, 2)], 9, (0, 0, 1, 6), [])
noncomputable def zC120 : zCt := (133, [(2, 1, 1)], [zFull], [4], [(8, 5, 17), (9, 4, 4), (10, 0, 5), (11, 2, 3), (12, 0, 7), (13, 1, 2), (14, 0, 299), (16, 0, 23), (17, 1, 2)], 9, (0, 0, 1, 6), [(38, [(0, (2, 1, 1)), (1, (0, 0, 5))], [(0, 2, (2, 8, 8)), (0, 5, (2, 17, 17))], [(0, 0, 0, 1)])])
noncomputable def zC121 : zCt := (134, [(2, 1, 1)], [zFull], [], [(8, 5, 17), (9, 4, 4), (10, 0, 5), (11, 2, 3), (12, 0, 7), (13, 1, 2), (14, 0, 299), (16, 0, 23), (17, 1, 2)], 9, (0, 0, 0, 0), [])
noncomputable def zC122 : zCt := (35, [(2, 8, 8), zFull], [], [], [(8, 11, 12), (8, 17, 17), (13, 1, 2), (14, 0, 299)], 7, (0, 0, 0, 0), [])
noncomputable def zC123 : zCt := (69, [(2, 8, 8)], [zFull], [], [], 2, (0, 0, 0, 0), [(4, [(0, (2, 8, 8)), (1, zFull), (2, (0, 0, 24))], [], [(0, 0, 0, 1), (1, 2, 0, 24), (0, 0, 0, 1)])])
noncomputable def zC124 : zCt := (136, [(2, 1, 1)], [zFull], [], [], 3, (0, 0, 0, 0), [])
noncomputable def zC125 : zCt := (137, [(2, 1, 1), zFull, zFull], [zFull], [0, 2], [], 7, (0, 0, 1, 6), [])
noncomputable def zC126 : zCt := (138, [(2, 1, 1)], [(0, 0, 16777215)], [], [], 2, (0, 0, 0, 0), [])
noncomputable def zC127 : zCt := (15, [(2, 9, 9), zFull], [zFull], [], [], 0, (0, 0, 0, 0), [(4, [(0, (2, 9, 9)), (1, zFull), (2, zFull), (3, (0, 0, 6))], [], [(0, 0, 0, 1), (1, 3, 0, 6), (0, 0, 0, 1)])])
noncomputable def zC128 : zCt := (76, [(2, 8, 8)], [(0, 0, 24)], [], [], 6, (0, 0, 0, 0), [(8, [(0, (2, 8, 8)), (1, (0, 0, 63)), (2, (0, 0, 24)), (3, (0, 0, 99))], [(0, 1, (2, 9, 9))], [(0, 0, 0, 1), (1, 3, 0, 99), (0, 0, 0, 1)])])
noncomputable def zC129 : zCt := (139, [(2, 1, 1)], [(0, 0, 24)], [], [], 7, (0, 0, 0, 0), [])
noncomputable def zC130 : zCt := (78, [(2, 8, 8), zFull, zFull], [(0, 0, 2)], [], [], 3, (0, 0, 0, 0), [(25, [(0, (2, 8, 8)), (1, zFull), (2, zFull), (3, zFull), (4, zFull), (5, (0, -1, 1))], [(0, 0, (2, 16, 16)), (0, 1, (2, 9, 9))], [(0, 0, 0, 2)]), (31, [(0, (2, 8, 8)), (1, zFull), (2, zFull), (3, zFull), (4, zFull), (5, (0, -1, 1)), (6, (0, -1, 1))], [(0, 0, (2, 16, 16)), (0, 1, (2, 9, 9))], [(0, 0, 0, 1)])])
noncomputable def zC131 : zCt := (77, [(2, 8, 8)], [(0, -1, 1236)], [], [], 4, (0, 0, 0, 0), [(6, [(0, (2, 8, 8)), (1, (0, -1, 1236)), (2, (0, 0, 2)), (3, (0, 0, 24))], [], [(0, 0, 0, 1), (1, 3, 0, 24), (0, 0, 0, 2), (0, 0, 0, 0), (0, 0, 0, 0)]), (13, [(0, (2, 8, 8)), (1, (0, -1, 1236)), (2, (0, 0, 2)), (3, (0, 0, 23)), (4, (0, 1, 24))], [], [(0, 0, 0, 1), (1, 3, 0, 24), (0, 0, 0, 1), (1, 4, 0, 24), (0, 0, 0, 1)])])
noncomputable def zC132 : zCt := (140, [(2, 1, 1)], [(0, -1, 1236)], [], [], 5, (0, 0, 0, 0), [])
noncomputable def zC133 : zCt := (80, [(2, 8, 8)], [(0, 0, 2147483647)], [], [], 2, (0, 0, 0, 0), [(9, [(0, (2, 8, 8)), (1, zFull), (2, (0, 0, 6))], [(0, 1, (2, 9, 9))], [(0, 0, 0, 1), (1, 2, 0, 6), (0, 0, 0, 1)])])
noncomputable def zC134 : zCt := (141, [(2, 1, 1)], [(0, 0, 2147483647)], [], [], 3, (0, 0, 0, 0), [])
noncomputable def zC135 : zCt := (110, [(2, 8, 8), zFull], [(0, 0, 315)], [], [], 1, (0, 0, 0, 0), [])
noncomputable def zC136 : zCt := (142, [(2, 1, 1), zFull], [(0, 0, 315)], [], [], 2, (0, 0, 0, 0), [])
noncomputable def zC137 : zCt := (112, [(0, -2147483648, 6)], [(1, 1, 720)], [], [], 0, (0, 0, 0, 0), [])
noncomputable def zC138 : zCt := (112, [(0, -2147483648, 63)], [(1, -9223372036854775808, 9223372036854775807)], [], [], 0, (0, 0, 0, 0), [(4, [(0, (0, -2147483648, 63)), (1, (1, -9223372036854775808, 9223372036854775807)), (3, (0, 2, 99))], [], [(0, 0, 0, 1), (1, 3, 0, 99), (0, 0, 0, 1)])])
noncomputable def zC139 : zCt := (111, [(2, 8, 8), zFull, zFull], [zFull], [], [], 2, (0, 0, 0, 0), [(20, [(0, (2, 8, 8)), (1, zFull), (2, zFull), (3, (0, 0, 63)), (4, (0, 0, 6)), (5, (0, 1, 315)), (6, (1, -9223372036854775808, 9223372036854775807)), (8, (0, 0, 99))], [(0, 1, (2, 9, 9))], [(0, 0, 0, 1), (1, 8, 0, 99), (0, 0, 0, 1)])])
noncomputable def zC140 : zCt := (143, [(2, 1, 1), zFull, zFull], [zFull], [0, 2], [], 7, (0, 0, 1, 6), [])
noncomputable def zC141 : zCt := (83, [(2, 8, 8), zFull], [(0, 1, 24)], [], [], 2, (0, 0, 0, 0), [(2, [(0, (2, 8, 8)), (1, zFull), (2, (0, 1, 24))], [], [(0, 0, 0, 1), (1, 2, 0, 24), (0, 0, 0, 1)])])
noncomputable def zC142 : zCt := (81, [(2, 8, 8), zFull], [zFull], [], [], 3, (0, 0, 0, 0), [(16, [(0, (2, 8, 8)), (1, zFull), (2, zFull), (3, (0, 0, 24))], [], [(0, 0, 0, 1), (1, 3, 0, 24), (0, 0, 0, 1)])])
noncomputable def zC143 : zCt := (144, [(2, 1, 1), zFull], [zFull], [2], [], 7, (0, 0, 1, 6), [])
noncomputable def zC144 : zCt := (114, [(2, 8, 8), zFull, zFull, zFull, zFull], [(0, 0, 1)], [], [], 3, (0, 0, 0, 0), [(15, [(0, (2, 8, 8)), (1, zFull), (2, zFull), (3, zFull), (4, zFull)], [(0, 15, zFull)], [(0, 0, 0, 1)])])
noncomputable def zC145 : zCt := (113, [(2, 8, 8), zFull, zFull, zFull], [zFull], [], [], 4, (0, 0, 0, 0), [(4, [(0, (2, 8, 8)), (1, zFull), (2, zFull), (3, zFull), (4, zFull), (5, (0, 0, 2))], [], [(0, 0, 0, 1), (1, 5, 0, 2), (0, 0, 0, 2), (0, 0, 0, 0), (0, 0, 0, 0)]), (9, [(0, (2, 8, 8)), (1, zFull), (2, zFull), (3, zFull), (4, zFull), (5, (0, 0, 1)), (6, (0, 0, 2))], [], [(0, 0, 0, 1), (1, 5, 0, 2), (0, 0, 0, 1), (1, 6, 0, 2), (0, 0, 0, 1)])])
noncomputable def zC146 : zCt := (145, [(2, 1, 1), zFull, zFull, zFull], [zFull], [0, 2], [], 7, (0, 0, 1, 6), [])
noncomputable def zC147 : zCt := (20, [(2, 9, 9), zFull], [zFull], [], [], 0, (0, 0, 0, 0), [(4, [(0, (2, 9, 9)), (1, zFull), (2, zFull), (3, (0, 0, 6))], [], [(0, 0, 0, 1), (1, 3, 0, 6), (0, 0, 0, 1)])])
noncomputable def zC148 : zCt := (175, [(2, 1, 1)], [zFull], [], [], 1, (0, 0, 0, 0), [(4, [(0, (2, 1, 1)), (1, (1, -9223372036854775808, 9223372036854775807)), (3, (0, 0, 400))], [], [(0, 0, 0, 1), (1, 3, 0, 400), (0, 0, 0, 1)])])
noncomputable def zC149 : zCt := (174, [(2, 1, 1)], [(0, 0, 63)], [], [], 1, (0, 0, 0, 0), [(7, [(0, (2, 1, 1)), (1, (0, 0, 63)), (2, (0, 0, 400))], [(0, 2, (2, 8, 8))], [(0, 0, 0, 1), (1, 2, 0, 400), (0, 0, 0, 1)])])
noncomputable def zC150 : zCt := (173, [(2, 1, 1)], [(0, 0, 1)], [], [], 1, (0, 0, 0, 0), [(2, [(0, (2, 1, 1)), (1, (0, 0, 400))], [], [(0, 0, 0, 1), (1, 1, 0, 400), (0, 0, 0, 1)])])
noncomputable def zC151 : zCt := (146, [(2, 1, 1), (0, 0, 1)], [zFull], [0], [(2, 1, 1)], 6, (0, 0, 1, 6), [])
noncomputable def zC152 : zCt := (21, [(2, 9, 9)], [(0, 0, 9)], [], [], 1, (0, 0, 0, 0), [(4, [(0, (2, 9, 9)), (1, (0, 0, 9)), (2, (0, 1, 11))], [], [(0, 0, 0, 1), (1, 2, 0, 11), (0, 0, 0, 1)])])
noncomputable def zC153 : zCt := (147, [(2, 1, 1)], [(0, 0, 9)], [], [], 2, (0, 0, 0, 0), [])
noncomputable def zC154 : zCt := (72, [(2, 8, 8)], [zFull], [], [], 2, (0, 0, 0, 0), [(4, [(0, (2, 8, 8)), (1, zFull), (2, (0, 1, 6))], [], [(0, 0, 0, 1), (1, 2, 0, 6), (0, 0, 0, 2), (0, 0, 0, 0), (0, 0, 0, 0)]), (11, [(0, (2, 8, 8)), (1, zFull), (2, (0, 1, 5)), (3, (0, 0, 5))], [(0, 1, (2, 9, 9))], [(0, 0, 0, 1), (1, 2, 0, 6), (0, 0, 0, 1), (1, 3, 0, 5), (0, 0, 0, 1)])])
noncomputable def zC155 : zCt := (148, [(2, 1, 1)], [zFull], [], [], 3, (0, 0, 0, 0), [])
noncomputable def zC156 : zCt := (74, [zFull, zFull], [zFull], [], [], 1, (0, 0, 0, 0), [(4, [(0, zFull), (1, zFull), (2, zFull), (3, (0, 1, 2147483647))], [], [(0, 0, 0, 1), (1, 3, 0, 2147483647), (0, 0, 0, 1)])])
noncomputable def zC157 : zCt := (73, [(2, 8, 8), zFull], [(0, -1, 23)], [], [], 2, (0, 0, 0, 0), [(4, [(0, (2, 8, 8)), (1, zFull), (2, zFull), (3, (0, 0, 6))], [], [(0, 0, 0, 2), (1, 3, 0, 6), (0, 0, 0, 1)]), (31, [(0, (2, 8, 8)), (1, zFull), (2, zFull), (3, (0, 0, 24))], [(0, 1, (2, 9, 9))], [(0, 0, 0, 1), (1, 3, 0, 24), (0, 0, 0, 1)])])
noncomputable def zC158 : zCt := (149, [(2, 1, 1), zFull], [(0, -1, 23)], [0], [], 7, (0, 0, 1, 6), [])
noncomputable def zC159 : zCt := (75, [(2, 8, 8)], [zFull], [], [], 1, (0, 0, 0, 0), [(4, [(0, (2, 8, 8)), (1, zFull), (2, (0, 0, 6))], [], [(0, 0, 0, 1), (1, 2, 0, 6), (0, 0, 0, 1)])])
noncomputable def zC160 : zCt := (150, [(2, 1, 1)], [zFull], [], [], 2, (0, 0, 0, 0), [])
noncomputable def zC161 : zCt := (116, [(2, 8, 8)], [(0, -1, 5)], [], [], 1, (0, 0, 0, 0), [(6, [(0, (2, 8, 8)), (1, (0, -1, 5)), (2, (0, -1, 2147483647)), (3, (0, 0, 6))], [], [(0, 0, 0, 1), (1, 3, 0, 6), (0, 0, 0, 1)])])
noncomputable def zC162 : zCt := (155, [(2, 1, 1)], [(0, -1, 5)], [], [], 2, (0, 0, 0, 0), [])
noncomputable def zC163 : zCt := (156, [(2, 1, 1)], [zFull], [], [], 3, (0, 0, 0, 0), [])
noncomputable def zC164 : zCt := (19, [(2, 9, 9)], [zFull], [], [], 0, (0, 0, 0, 0), [(4, [(0, (2, 9, 9)), (1, zFull), (2, (0, 0, 6))], [], [(0, 0, 0, 1), (1, 2, 0, 6), (0, 0, 0, 1)])])
noncomputable def zC165 : zCt := (38, [(2, 8, 8), zFull, zFull], [zFull], [], [], 6, (0, 0, 0, 0), [(7, [(0, (2, 8, 8)), (1, zFull), (2, zFull), (3, zFull), (4, zFull), (5, (0, 0, 2147483647))], [(0, 11, zFull)], [(0, 0, 0, 1), (1, 5, 0, 2147483647), (0, 0, 0, 1)])])
noncomputable def zC166 : zCt := (158, [(2, 1, 1), zFull, (0, 0, 1)], [zFull], [0], [], 7, (0, 0, 1, 6), [(13, [(0, (2, 1, 1)), (1, (0, 0, 200)), (2, (0, 0, 1)), (3, zFull), (4, (0, 2, 7))], [(0, 2, (2, 8, 8))], [(0, 0, 0, 1), (1, 4, 0, 7), (0, 0, 0, 1)])])
noncomputable def zC167 : zCt := (60, [(2, 13, 13), zFull], [zFull], [], [], 2, (0, 0, 0, 0), [(2, [(0, (2, 13, 13)), (1, zFull), (2, (0, 0, 60))], [], [(0, 0, 0, 1), (1, 2, 0, 60), (0, 0, 0, 1)])])
noncomputable def zC168 : zCt := (59, [(2, 13, 13), zFull], [zFull], [], [], 2, (0, 0, 0, 0), [(4, [(0, (2, 13, 13)), (1, zFull), (2, zFull), (3, (0, 0, 60))], [], [(0, 0, 0, 1), (1, 3, 0, 60), (0, 0, 0, 1)])])
noncomputable def zC169 : zCt := (159, [(2, 1, 1), zFull, (0, 0, 1)], [zFull], [2], [], 7, (0, 0, 1, 6), [])
noncomputable def zC170 : zCt := (160, [(2, 1, 1), zFull, zFull], [zFull], [3], [], 7, (0, 0, 1, 6), [])
noncomputable def zC171 : zCt := (161, [(2, 1, 1), zFull], [zFull], [], [(8, 17, 17)], 0, (0, 0, 0, 0), [])
noncomputable def zC172 : zCt := (63, [(2, 17, 17), (2, 8, 8)], [(0, 0, 1)], [], [(8, 5, 17), (9, 4, 4), (10, 0, 5), (11, 2, 3), (12, 0, 7), (13, 1, 2), (14, 0, 299), (16, 0, 23), (17, 1, 2)], 8, (0, 0, 0, 0), [])
noncomputable def zC173 : zCt := (162, [(2, 1, 1)], [(0, 0, 1)], [], [(8, 5, 17), (9, 4, 4), (10, 0, 5), (11, 2, 3), (12, 0, 7), (13, 1, 2), (14, 0, 299), (16, 0, 23), (17, 1, 2)], 9, (0, 0, 0, 0), [])
noncomputable def zC174 : zCt := (163, [(2, 1, 1)], [], [], [(1, 6, 6), (8, 5, 17), (9, 4, 4), (10, 0, 5), (11, 2, 3), (12, 0, 7), (13, 1, 2), (14, 0, 299), (16, 0, 23)], 8, (0, 0, 0, 0), [])
noncomputable def zC175 : zCt := (164, [(2, 1, 1)], [(0, 0, 1)], [], [(8, 5, 17), (9, 4, 4), (10, 0, 5), (11, 2, 3), (12, 0, 7), (13, 1, 2), (14, 0, 299), (16, 0, 23), (17, 2, 2)], 8, (0, 0, 0, 0), [])
noncomputable def zC176 : zCt := (165, [(2, 1, 1), zFull], [zFull], [], [], 3, (0, 0, 0, 0), [(38, [(0, (2, 1, 1)), (1, zFull)], [], [(0, 0, 0, 1)])])
noncomputable def zC177 : zCt := (199, [(2, 20, 20), zFull, zFull, zFull, zFull, zFull], [(0, -1, 400)], [], [(20, 0, 0), (20, 9, 9), (26, 0, 399), (27, 0, 4)], 0, (0, 0, 0, 0), [(38, [(0, (2, 20, 20)), (1, zFull), (2, zFull), (3, zFull), (4, zFull), (5, zFull), (6, (0, 0, 20))], [(0, 0, (0, 0, 0)), (0, 9, (0, 0, 380)), (0, 15, (2, 27, 27))], [(0, 0, 0, 1), (1, 6, 0, 20), (0, 0, 0, 1)])])
noncomputable def zC178 : zCt := (200, [(2, 20, 20), zFull], [(0, 0, 1)], [], [(20, 0, 0), (20, 9, 9)], 0, (0, 0, 0, 0), [])
noncomputable def zC179 : zCt := (209, [(2, 20, 20)], [zFull], [], [(20, 0, 0)], 0, (0, 0, 0, 0), [])
noncomputable def zC180 : zCt := (248, [(2, 20, 20), zFull], [(0, -1, 5)], [], [(20, 0, 0)], 2, (0, 0, 0, 0), [])
noncomputable def zC181 : zCt := (247, [(2, 20, 20), zFull], [(0, -1, 23)], [], [], 1, (0, 0, 0, 0), [(2, [(0, (2, 20, 20)), (1, zFull), (2, (0, 0, 24))], [], [(0, 0, 0, 1), (1, 2, 0, 24), (0, 0, 0, 1)])])
noncomputable def zC182 : zCt := (242, [(2, 20, 20), zFull], [zFull], [], [], 1, (0, 0, 0, 0), [(4, [(0, (2, 20, 20)), (1, zFull), (2, zFull), (3, (0, 0, 24))], [], [(0, 0, 0, 1), (1, 3, 0, 24), (0, 0, 0, 1)])])
noncomputable def zC183 : zCt := (245, [zFull, zFull], [(0, 0, 24)], [], [], 1, (0, 0, 0, 0), [(2, [(0, zFull), (1, zFull), (2, (0, 0, 24))], [], [(0, 0, 0, 1), (1, 2, 0, 24), (0, 0, 0, 1)])])
noncomputable def zC184 : zCt := (246, [(2, 20, 20), zFull], [(0, 0, 24)], [], [], 6, (0, 0, 0, 0), [(4, [(0, (2, 20, 20)), (1, zFull), (2, (0, 0, 24)), (3, (0, 0, 24))], [], [(0, 0, 0, 1), (1, 3, 0, 24), (0, 0, 0, 1)])])
noncomputable def zC185 : zCt := (249, [(2, 20, 20), zFull, zFull], [zFull], [], [(20, 0, 0)], 7, (0, 0, 0, 0), [])
noncomputable def zC186 : zCt := (252, [(2, 20, 20), zFull, zFull], [zFull], [], [(20, 0, 0), (20, 7, 7), (21, 16, 60), (25, 0, 4655)], 6, (0, 0, 0, 0), [])
noncomputable def zC187 : zCt := (253, [(2, 20, 20), zFull, zFull], [zFull], [], [(20, 0, 0), (20, 7, 7), (21, 16, 60), (25, 0, 4655)], 2, (0, 0, 0, 0), [])
noncomputable def zC188 : zCt := (255, [(2, 20, 20), zFull, zFull], [(0, -1, 5)], [], [(20, 0, 0), (20, 7, 7), (21, 16, 39), (25, 0, 4655)], 2, (0, 0, 0, 0), [])
noncomputable def zC189 : zCt := (256, [(2, 20, 20), zFull], [(0, 0, 5)], [], [(20, 0, 0), (20, 7, 7), (21, 16, 39), (25, 0, 4655)], 2, (0, 0, 0, 0), [])
noncomputable def zC190 : zCt := (234, [(2, 20, 20), zFull], [zFull], [], [], 2, (0, 0, 0, 0), [(4, [(0, (2, 20, 20)), (1, zFull), (2, zFull), (3, (0, 0, 8))], [], [(0, 0, 0, 1), (1, 3, 0, 8), (0, 0, 0, 1)])])
noncomputable def zC191 : zCt := (233, [(2, 20, 20)], [zFull], [], [], 3, (0, 0, 0, 0), [(4, [(0, (2, 20, 20)), (1, zFull), (2, (0, 0, 8))], [], [(0, 0, 0, 1), (1, 2, 0, 8), (0, 0, 0, 1)])])
noncomputable def zC192 : zCt := (258, [(2, 20, 20), zFull], [zFull], [], [(20, 0, 0), (20, 7, 7), (21, 66, 87), (25, 0, 4655)], 5, (0, 0, 0, 0), [])
noncomputable def zC193 : zCt := (259, [(2, 20, 20), zFull], [zFull], [], [(20, 0, 0), (20, 7, 7), (21, 66, 87), (25, 0, 4655)], 5, (0, 0, 0, 0), [])
noncomputable def zC194 : zCt := (260, [(2, 20, 20)], [zFull], [], [(20, 0, 0), (20, 7, 7), (21, 8, 8), (21, 40, 60), (25, 0, 4655)], 2, (0, 0, 0, 0), [])
noncomputable def zC195 : zCt := (261, [(2, 20, 20)], [zFull], [], [(20, 0, 0), (20, 7, 7), (21, 7, 7), (25, 0, 4655)], 1, (0, 0, 0, 0), [])
noncomputable def zC196 : zCt := (262, [(2, 20, 20), zFull, zFull, zFull], [], [], [(21, 14, 14), (21, 88, 387)], 6, (0, 0, 0, 0), [(2, [(0, (2, 20, 20)), (1, zFull), (2, zFull), (3, zFull), (4, (0, 2, 299))], [], [(0, 0, 0, 1), (2, 4, 0, 2), (0, 0, 0, 1)])])
noncomputable def zC197 : zCt := (274, [(2, 20, 20)], [zFull], [], [(20, 0, 0)], 1, (0, 0, 0, 0), [(7, [(0, (2, 20, 20)), (1, zFull), (2, (0, 0, 24))], [(0, 0, (0, 0, 0))], [(0, 0, 0, 1), (1, 2, 0, 24), (0, 0, 0, 1)])])
noncomputable def zC198 : zCt := (276, [(2, 20, 20), zFull, zFull], [zFull], [], [], 2, (0, 0, 0, 0), [(4, [(0, (2, 20, 20)), (1, zFull), (2, zFull), (3, zFull), (4, (0, 0, 24))], [], [(0, 0, 0, 1), (1, 4, 0, 24), (0, 0, 0, 1)])])
noncomputable def zC199 : zCt := (277, [(2, 20, 20), zFull, zFull], [zFull], [], [(20, 0, 0)], 3, (0, 0, 0, 0), [])
noncomputable def zC200 : zCt := (278, [(2, 20, 20)], [zFull], [], [(20, 0, 0)], 3, (0, 0, 0, 0), [(7, [(0, (2, 20, 20)), (1, zFull), (2, (0, 0, 6))], [(0, 0, (0, 0, 0))], [(0, 0, 0, 1), (1, 2, 0, 6), (0, 0, 0, 2), (0, 0, 0, 0), (0, 0, 0, 0)]), (13, [(0, (2, 20, 20)), (1, zFull), (2, (0, 0, 5)), (3, (0, 0, 5))], [(0, 0, (0, 0, 0)), (0, 1, (2, 21, 21))], [(0, 0, 0, 1), (1, 2, 0, 6), (0, 0, 0, 1), (1, 3, 0, 5), (0, 0, 0, 1)])])
noncomputable def zC201 : zCt := (279, [(2, 20, 20)], [zFull], [], [(20, 0, 0)], 2, (0, 0, 0, 0), [])
noncomputable def zC202 : zCt := (280, [(2, 20, 20)], [zFull], [], [(20, 0, 0)], 3, (0, 0, 0, 0), [(7, [(0, (2, 20, 20)), (1, zFull), (2, (0, 0, 6))], [(0, 0, (0, 0, 0))], [(0, 0, 0, 1), (1, 2, 0, 6), (0, 0, 0, 1)])])
noncomputable def zC203 : zCt := (281, [(2, 20, 20)], [(0, 0, 2147483647)], [], [(20, 0, 0)], 3, (0, 0, 0, 0), [(13, [(0, (2, 20, 20)), (1, zFull), (2, (0, 0, 6))], [(0, 0, (0, 0, 0))], [(0, 0, 0, 1), (1, 2, 0, 6), (0, 0, 0, 1)])])
noncomputable def zC204 : zCt := (282, [zFull], [zFull], [], [], 2, (0, 0, 0, 0), [(9, [(0, zFull), (1, zFull), (2, (0, 0, 24))], [], [(0, 0, 0, 1), (1, 2, 0, 24), (0, 0, 0, 1)])])
noncomputable def zC205 : zCt := (283, [(2, 20, 20), zFull], [zFull], [], [(20, 0, 0)], 3, (0, 0, 0, 0), [(16, [(0, (2, 20, 20)), (1, (0, 0, 5)), (2, zFull), (3, (0, 0, 6))], [(0, 0, (0, 0, 0)), (0, 1, (2, 21, 21))], [(0, 0, 0, 1), (1, 3, 0, 6), (0, 0, 0, 1)])])
noncomputable def zC206 : zCt := (284, [(2, 20, 20), zFull], [(0, -1, 23)], [], [(20, 0, 0)], 2, (0, 0, 0, 0), [(19, [(0, (2, 20, 20)), (1, (0, 1, 24)), (2, (0, 0, 24))], [(0, 0, (0, 0, 0))], [(0, 0, 0, 1), (1, 2, 0, 24), (0, 0, 0, 2), (0, 0, 0, 0), (0, 0, 0, 0)]), (24, [(0, (2, 20, 20)), (1, (0, 1, 24)), (2, (0, 0, 23)), (3, (0, 0, 6))], [(0, 0, (0, 0, 0))], [(0, 0, 0, 1), (1, 2, 0, 24), (0, 0, 0, 1), (1, 3, 0, 6), (0, 0, 0, 1)])])
noncomputable def zC207 : zCt := (289, [(2, 20, 20), (0, -1, 5), (0, 0, 24), (0, 0, 24)], [(0, -1, 1)], [], [], 3, (0, 0, 0, 0), [])
noncomputable def zC208 : zCt := (290, [(2, 20, 20)], [(0, -1, 1236)], [], [(20, 0, 0)], 6, (0, 0, 0, 0), [(9, [(0, (2, 20, 20)), (1, (0, -1, 1236)), (2, (0, 0, 2)), (3, (0, 0, 24))], [(0, 0, (0, 0, 0))], [(0, 0, 0, 1), (1, 3, 0, 24), (0, 0, 0, 2), (0, 0, 0, 0), (0, 0, 0, 0)]), (16, [(0, (2, 20, 20)), (1, (0, -1, 1236)), (2, (0, 0, 2)), (3, (0, 0, 23)), (4, (0, 1, 24))], [(0, 0, (0, 0, 0))], [(0, 0, 0, 1), (1, 3, 0, 24), (0, 0, 0, 1), (1, 4, 0, 24), (0, 0, 0, 1)])])
noncomputable def zC209 : zCt := (291, [(2, 20, 20), zFull], [(0, 0, 261)], [], [], 3, (0, 0, 0, 0), [(4, [(0, (2, 20, 20)), (1, zFull), (2, (0, 0, 0)), (3, (0, 0, 0))], [], [(0, 0, 0, 1), (1, 3, 0, 24), (0, 0, 0, 2), (0, 0, 0, 0), (0, 0, 0, 0)]), (4, [(0, (2, 20, 20)), (1, zFull), (2, (0, 0, 3)), (3, (0, 1, 1))], [(0, 1, (2, 21, 21))], [(0, 0, 0, 1), (1, 3, 0, 24), (0, 0, 0, 2), (0, 0, 0, 0), (0, 0, 0, 0)]), (23, [(0, (2, 20, 20)), (1, zFull), (2, (0, 0, 0)), (3, (0, 0, 0)), (4, (0, 0, 1)), (5, (0, 0, 6))], [(0, 1, (2, 21, 21))], [(0, 0, 0, 1), (1, 3, 0, 24), (0, 0, 0, 1), (1, 5, 0, 6), (0, 0, 0, 1)]), (4, [(0, (2, 20, 20)), (1, zFull), (2, (0, 0, 6)), (3, (0, 2, 2))], [(0, 1, (2, 21, 21))], [(0, 0, 0, 1), (1, 3, 0, 24), (0, 0, 0, 2), (0, 0, 0, 0), (0, 0, 0, 0)]), (23, [(0, (2, 20, 20)), (1, zFull), (2, (0, 0, 3)), (3, (0, 1, 1)), (4, (0, 0, 1)), (5, (0, 0, 6))], [(0, 1, (2, 21, 21))], [(0, 0, 0, 1), (1, 3, 0, 24), (0, 0, 0, 1), (1, 5, 0, 6), (0, 0, 0, 1)]), (4, [(0, (2, 20, 20)), (1, zFull), (2, (0, 0, 9)), (3, (0, 3, 3))], [(0, 1, (2, 21, 21))], [(0, 0, 0, 1), (1, 3, 0, 24), (0, 0, 0, 2), (0, 0, 0, 0), (0, 0, 0, 0)]), (23, [(0, (2, 20, 20)), (1, zFull), (2, (0, 0, 6)), (3, (0, 2, 2)), (4, (0, 0, 1)), (5, (0, 0, 6))], [(0, 1, (2, 21, 21))], [(0, 0, 0, 1), (1, 3, 0, 24), (0, 0, 0, 1), (1, 5, 0, 6), (0, 0, 0, 1)]), (4, [(0, (2, 20, 20)), (1, zFull), (2, (0, 0, 12)), (3, (0, 4, 4))], [(0, 1, (2, 21, 21))], [(0, 0, 0, 1), (1, 3, 0, 24), (0, 0, 0, 2), (0, 0, 0, 0), (0, 0, 0, 0)]), (23, [(0, (2, 20, 20)), (1, zFull), (2, (0, 0, 9)), (3, (0, 3, 3)), (4, (0, 0, 1)), (5, (0, 0, 6))], [(0, 1, (2, 21, 21))], [(0, 0, 0, 1), (1, 3, 0, 24), (0, 0, 0, 1), (1, 5, 0, 6), (0, 0, 0, 1)]), (4, [(0, (2, 20, 20)), (1, zFull), (2, (0, 0, 15)), (3, (0, 5, 5))], [(0, 1, (2, 21, 21))], [(0, 0, 0, 1), (1, 3, 0, 24), (0, 0, 0, 2), (0, 0, 0, 0), (0, 0, 0, 0)]), (23, [(0, (2, 20, 20)), (1, zFull), (2, (0, 0, 12)), (3, (0, 4, 4)), (4, (0, 0, 1)), (5, (0, 0, 6))], [(0, 1, (2, 21, 21))], [(0, 0, 0, 1), (1, 3, 0, 24), (0, 0, 0, 1), (1, 5, 0, 6), (0, 0, 0, 1)]), (4, [(0, (2, 20, 20)), (1, zFull), (2, (0, 0, 18)), (3, (0, 6, 6))], [(0, 1, (2, 21, 21))], [(0, 0, 0, 1), (1, 3, 0, 24), (0, 0, 0, 2), (0, 0, 0, 0), (0, 0, 0, 0)]), (23, [(0, (2, 20, 20)), (1, zFull), (2, (0, 0, 15)), (3, (0, 5, 5)), (4, (0, 0, 1)), (5, (0, 0, 6))], [(0, 1, (2, 21, 21))], [(0, 0, 0, 1), (1, 3, 0, 24), (0, 0, 0, 1), (1, 5, 0, 6), (0, 0, 0, 1)]), (4, [(0, (2, 20, 20)), (1, zFull), (2, (0, 0, 20)), (3, (0, 7, 7))], [(0, 1, (2, 21, 21))], [(0, 0, 0, 1), (1, 3, 0, 24), (0, 0, 0, 2), (0, 0, 0, 0), (0, 0, 0, 0)]), (23, [(0, (2, 20, 20)), (1, zFull), (2, (0, 0, 18)), (3, (0, 6, 6)), (4, (0, 0, 1)), (5, (0, 0, 6))], [(0, 1, (2, 21, 21))], [(0, 0, 0, 1), (1, 3, 0, 24), (0, 0, 0, 1), (1, 5, 0, 6), (0, 0, 0, 1)]), (4, [(0, (2, 20, 20)), (1, zFull), (2, (0, 0, 22)), (3, (0, 8, 8))], [(0, 1, (2, 21, 21))], [(0, 0, 0, 1), (1, 3, 0, 24), (0, 0, 0, 2), (0, 0, 0, 0), (0, 0, 0, 0)]), (23, [(0, (2, 20, 20)), (1, zFull), (2, (0, 0, 20)), (3, (0, 7, 7)), (4, (0, 0, 1)), (5, (0, 0, 6))], [(0, 1, (2, 21, 21))], [(0, 0, 0, 1), (1, 3, 0, 24), (0, 0, 0, 1), (1, 5, 0, 6), (0, 0, 0, 1)]), (4, [(0, (2, 20, 20)), (1, zFull), (2, (0, 0, 24)), (3, (0, 9, 9))], [(0, 1, (2, 21, 21))], [(0, 0, 0, 1), (1, 3, 0, 24), (0, 0, 0, 2), (0, 0, 0, 0), (0, 0, 0, 0)]), (23, [(0, (2, 20, 20)), (1, zFull), (2, (0, 0, 22)), (3, (0, 8, 8)), (4, (0, 0, 1)), (5, (0, 0, 6))], [(0, 1, (2, 21, 21))], [(0, 0, 0, 1), (1, 3, 0, 24), (0, 0, 0, 1), (1, 5, 0, 6), (0, 0, 0, 1)]), (4, [(0, (2, 20, 20)), (1, zFull), (2, (0, 0, 26)), (3, (0, 10, 10))], [(0, 1, (2, 21, 21))], [(0, 0, 0, 1), (1, 3, 0, 24), (0, 0, 0, 2), (0, 0, 0, 0), (0, 0, 0, 0)]), (23, [(0, (2, 20, 20)), (1, zFull), (2, (0, 0, 24)), (3, (0, 9, 9)), (4, (0, 0, 1)), (5, (0, 0, 6))], [(0, 1, (2, 21, 21))], [(0, 0, 0, 1), (1, 3, 0, 24), (0, 0, 0, 1), (1, 5, 0, 6), (0, 0, 0, 1)]), (4, [(0, (2, 20, 20)), (1, zFull), (2, (0, 0, 28)), (3, (0, 11, 11))], [(0, 1, (2, 21, 21))], [(0, 0, 0, 1), (1, 3, 0, 24), (0, 0, 0, 2), (0, 0, 0, 0), (0, 0, 0, 0)]), (23, [(0, (2, 20, 20)), (1, zFull), (2, (0, 0, 26)), (3, (0, 10, 10)), (4, (0, 0, 1)), (5, (0, 0, 6))], [(0, 1, (2, 21, 21))], [(0, 0, 0, 1), (1, 3, 0, 24), (0, 0, 0, 1), (1, 5, 0, 6), (0, 0, 0, 1)]), (4, [(0, (2, 20, 20)), (1, zFull), (2, (0, 0, 30)), (3, (0, 12, 12))], [(0, 1, (2, 21, 21))], [(0, 0, 0, 1), (1, 3, 0, 24), (0, 0, 0, 2), (0, 0, 0, 0), (0, 0, 0, 0)]), (23, [(0, (2, 20, 20)), (1, zFull), (2, (0, 0, 28)), (3, (0, 11, 11)), (4, (0, 0, 1)), (5, (0, 0, 6))], [(0, 1, (2, 21, 21))], [(0, 0, 0, 1), (1, 3, 0, 24), (0, 0, 0, 1), (1, 5, 0, 6), (0, 0, 0, 1)]), (4, [(0, (2, 20, 20)), (1, zFull), (2, (0, 0, 32)), (3, (0, 13, 13))], [(0, 1, (2, 21, 21))], [(0, 0, 0, 1), (1, 3, 0, 24), (0, 0, 0, 2), (0, 0, 0, 0), (0, 0, 0, 0)]), (23, [(0, (2, 20, 20)), (1, zFull), (2, (0, 0, 30)), (3, (0, 12, 12)), (4, (0, 0, 1)), (5, (0, 0, 6))], [(0, 1, (2, 21, 21))], [(0, 0, 0, 1), (1, 3, 0, 24), (0, 0, 0, 1), (1, 5, 0, 6), (0, 0, 0, 1)]), (4, [(0, (2, 20, 20)), (1, zFull), (2, (0, 0, 34)), (3, (0, 14, 14))], [(0, 1, (2, 21, 21))], [(0, 0, 0, 1), (1, 3, 0, 24), (0, 0, 0, 2), (0, 0, 0, 0), (0, 0, 0, 0)]), (23, [(0, (2, 20, 20)), (1, zFull), (2, (0, 0, 32)), (3, (0, 13, 13)), (4, (0, 0, 1)), (5, (0, 0, 6))], [(0, 1, (2, 21, 21))], [(0, 0, 0, 1), (1, 3, 0, 24), (0, 0, 0, 1), (1, 5, 0, 6), (0, 0, 0, 1)]), (4, [(0, (2, 20, 20)), (1, zFull), (2, (0, 0, 36)), (3, (0, 15, 15))], [(0, 1, (2, 21, 21))], [(0, 0, 0, 1), (1, 3, 0, 24), (0, 0, 0, 2), (0, 0, 0, 0), (0, 0, 0, 0)]), (23, [(0, (2, 20, 20)), (1, zFull), (2, (0, 0, 34)), (3, (0, 14, 14)), (4, (0, 0, 1)), (5, (0, 0, 6))], [(0, 1, (2, 21, 21))], [(0, 0, 0, 1), (1, 3, 0, 24), (0, 0, 0, 1), (1, 5, 0, 6), (0, 0, 0, 1)]), (4, [(0, (2, 20, 20)), (1, zFull), (2, (0, 0, 38)), (3, (0, 16, 16))], [(0, 1, (2, 21, 21))], [(0, 0, 0, 1), (1, 3, 0, 24), (0, 0, 0, 2), (0, 0, 0, 0), (0, 0, 0, 0)]), (23, [(0, (2, 20, 20)), (1, zFull), (2, (0, 0, 36)), (3, (0, 15, 15)), (4, (0, 0, 1)), (5, (0, 0, 6))], [(0, 1, (2, 21, 21))], [(0, 0, 0, 1), (1, 3, 0, 24), (0, 0, 0, 1), (1, 5, 0, 6), (0, 0, 0, 1)]), (4, [(0, (2, 20, 20)), (1, zFull), (2, (0, 0, 40)), (3, (0, 17, 17))], [(0, 1, (2, 21, 21))], [(0, 0, 0, 1), (1, 3, 0, 24), (0, 0, 0, 2), (0, 0, 0, 0), (0, 0, 0, 0)]), (23, [(0, (2, 20, 20)), (1, zFull), (2, (0, 0, 38)), (3, (0, 16, 16)), (4, (0, 0, 1)), (5, (0, 0, 6))], [(0, 1, (2, 21, 21))], [(0, 0, 0, 1), (1, 3, 0, 24), (0, 0, 0, 1), (1, 5, 0, 6), (0, 0, 0, 1)]), (4, [(0, (2, 20, 20)), (1, zFull), (2, (0, 0, 42)), (3, (0, 18, 18))], [(0, 1, (2, 21, 21))], [(0, 0, 0, 1), (1, 3, 0, 24), (0, 0, 0, 2), (0, 0, 0, 0), (0, 0, 0, 0)]), (23, [(0, (2, 20, 20)), (1, zFull), (2, (0, 0, 40)), (3, (0, 17, 17)), (4, (0, 0, 1)), (5, (0, 0, 6))], [(0, 1, (2, 21, 21))], [(0, 0, 0, 1), (1, 3, 0, 24), (0, 0, 0, 1), (1, 5, 0, 6), (0, 0, 0, 1)]), (4, [(0, (2, 20, 20)), (1, zFull), (2, (0, 0, 59)), (3, (0, 19, 19))], [(0, 1, (2, 21, 21))], [(0, 0, 0, 1), (1, 3, 0, 24), (0, 0, 0, 2), (0, 0, 0, 0), (0, 0, 0, 0)]), (23, [(0, (2, 20, 20)), (1, zFull), (2, (0, 0, 42)), (3, (0, 18, 18)), (4, (0, 0, 1)), (5, (0, 0, 6))], [(0, 1, (2, 21, 21))], [(0, 0, 0, 1), (1, 3, 0, 24), (0, 0, 0, 1), (1, 5, 0, 6), (0, 0, 0, 1)]), (4, [(0, (2, 20, 20)), (1, zFull), (2, (0, 0, 99)), (3, (0, 20, 20))], [(0, 1, (2, 21, 21))], [(0, 0, 0, 1), (1, 3, 0, 24), (0, 0, 0, 2), (0, 0, 0, 0), (0, 0, 0, 0)]), (23, [(0, (2, 20, 20)), (1, zFull), (2, (0, 0, 59)), (3, (0, 19, 19)), (4, (0, 0, 1)), (5, (0, 0, 6))], [(0, 1, (2, 21, 21))], [(0, 0, 0, 1), (1, 3, 0, 24), (0, 0, 0, 1), (1, 5, 0, 6), (0, 0, 0, 1)]), (4, [(0, (2, 20, 20)), (1, zFull), (2, (0, 0, 200)), (3, (0, 21, 21))], [(0, 1, (2, 21, 21))], [(0, 0, 0, 1), (1, 3, 0, 24), (0, 0, 0, 2), (0, 0, 0, 0), (0, 0, 0, 0)]), (23, [(0, (2, 20, 20)), (1, zFull), (2, (0, 0, 99)), (3, (0, 20, 20)), (4, (0, 0, 1)), (5, (0, 0, 6))], [(0, 1, (2, 21, 21))], [(0, 0, 0, 1), (1, 3, 0, 24), (0, 0, 0, 1), (1, 5, 0, 6), (0, 0, 0, 1)]), (4, [(0, (2, 20, 20)), (1, zFull), (2, (0, 0, 255)), (3, (0, 22, 22))], [(0, 1, (2, 21, 21))], [(0, 0, 0, 1), (1, 3, 0, 24), (0, 0, 0, 2), (0, 0, 0, 0), (0, 0, 0, 0)]), (23, [(0, (2, 20, 20)), (1, zFull), (2, (0, 0, 200)), (3, (0, 21, 21)), (4, (0, 0, 1)), (5, (0, 0, 6))], [(0, 1, (2, 21, 21))], [(0, 0, 0, 1), (1, 3, 0, 24), (0, 0, 0, 1), (1, 5, 0, 6), (0, 0, 0, 1)]), (4, [(0, (2, 20, 20)), (1, zFull), (2, (0, 0, 258)), (3, (0, 23, 23))], [(0, 1, (2, 21, 21))], [(0, 0, 0, 1), (1, 3, 0, 24), (0, 0, 0, 2), (0, 0, 0, 0), (0, 0, 0, 0)]), (23, [(0, (2, 20, 20)), (1, zFull), (2, (0, 0, 255)), (3, (0, 22, 22)), (4, (0, 0, 1)), (5, (0, 0, 6))], [(0, 1, (2, 21, 21))], [(0, 0, 0, 1), (1, 3, 0, 24), (0, 0, 0, 1), (1, 5, 0, 6), (0, 0, 0, 1)]), (4, [(0, (2, 20, 20)), (1, zFull), (2, (0, 0, 261)), (3, (0, 24, 24))], [(0, 1, (2, 21, 21))], [(0, 0, 0, 1), (1, 3, 0, 24), (0, 0, 0, 2), (0, 0, 0, 0), (0, 0, 0, 0)]), (23, [(0, (2, 20, 20)), (1, zFull), (2, (0, 0, 258)), (3, (0, 23, 23)), (4, (0, 0, 1)), (5, (0, 0, 6))], [(0, 1, (2, 21, 21))], [(0, 0, 0, 1), (1, 3, 0, 24), (0, 0, 0, 1), (1, 5, 0, 6), (0, 0, 0, 1)])])
noncomputable def zC210 : zCt := (293, [(2, 20, 20), zFull], [(0, 0, 261)], [], [(20, 0, 0)], 4, (0, 0, 0, 0), [])
noncomputable def zC211 : zCt := (294, [(0, -2147483648, 6)], [(0, 1, 720)], [], [], 0, (0, 0, 0, 0), [])
noncomputable def zC212 : zCt := (294, [(0, -2147483648, 63)], [zFull], [], [], 0, (0, 0, 0, 0), [(4, [(0, (0, -2147483648, 63)), (1, zFull), (2, (0, 2, 99))], [], [(0, 0, 0, 1), (1, 2, 0, 99), (0, 0, 0, 1)])])
noncomputable def zC213 : zCt := (295, [(2, 20, 20), zFull, zFull], [zFull], [], [(20, 0, 0)], 4, (0, 0, 0, 0), [(37, [(0, (2, 20, 20)), (1, (0, 0, 5)), (2, (0, 0, 999)), (3, (0, 1, 261)), (4, (1, -9223372036854775808, 9223372036854775807)), (6, (0, 0, 99))], [(0, 0, (0, 0, 0)), (0, 1, (2, 21, 21))], [(0, 0, 0, 1), (1, 6, 0, 99), (0, 0, 0, 1)])])
noncomputable def zC214 : zCt := (297, [(2, 20, 20), zFull, zFull, zFull], [zFull], [], [(20, 0, 0)], 4, (0, 0, 0, 0), [(37, [(0, (2, 20, 20)), (1, (0, 0, 5)), (2, (0, 0, 5)), (3, (0, 0, 23)), (4, zFull), (5, (0, 0, 2))], [(0, 0, (0, 0, 0)), (0, 1, (2, 21, 21))], [(0, 0, 0, 1), (1, 5, 0, 2), (0, 0, 0, 2), (0, 0, 0, 0), (0, 0, 0, 0)]), (42, [(0, (2, 20, 20)), (1, (0, 0, 5)), (2, (0, 0, 5)), (3, (0, 0, 23)), (4, zFull), (5, (0, 0, 1)), (6, (0, 0, 2))], [(0, 0, (0, 0, 0)), (0, 1, (2, 21, 21))], [(0, 0, 0, 1), (1, 5, 0, 2), (0, 0, 0, 1), (1, 6, 0, 2), (0, 0, 0, 3)]), (64, [(0, (2, 20, 20)), (1, (0, 0, 5)), (2, (0, 0, 5)), (3, (0, 0, 23)), (4, zFull), (5, (0, 0, 1)), (6, (0, 0, 1)), (7, (0, 0, 1))], [(0, 0, (0, 0, 0)), (0, 1, (2, 21, 21))], [(0, 0, 0, 1), (1, 5, 0, 2), (0, 0, 0, 1), (1, 6, 0, 2), (0, 0, 0, 2)]), (83, [(0, (2, 20, 20)), (1, (0, 0, 5)), (2, (0, 0, 5)), (3, (0, 0, 23)), (4, zFull), (5, (0, 0, 1)), (6, (0, 0, 1)), (7, (0, 0, 1)), (8, (0, 0, 1))], [(0, 0, (0, 0, 0)), (0, 1, (2, 21, 21))], [(0, 0, 0, 1), (1, 5, 0, 2), (0, 0, 0, 1), (1, 6, 0, 2), (0, 0, 0, 1)])])
noncomputable def zC215 : zCt := (298, [(2, 20, 20), zFull], [zFull], [], [], 2, (0, 0, 0, 0), [(4, [(0, (2, 20, 20)), (1, zFull), (2, zFull), (3, (0, 0, 6))], [], [(0, 0, 0, 1), (1, 3, 0, 6), (0, 0, 0, 1)])])
noncomputable def zC216 : zCt := (299, [(2, 20, 20), (0, 0, 1)], [(0, 0, 9999)], [], [(20, 0, 0), (20, 9, 11)], 6, (0, 0, 0, 0), [(12, [(0, (2, 20, 20)), (1, (0, 0, 1)), (2, (0, 0, 1)), (3, (0, 0, 400))], [(0, 0, (0, 0, 0)), (0, 9, (0, 0, 0)), (0, 10, (0, 0, 0)), (0, 11, (0, 0, 400))], [(0, 0, 0, 2), (1, 3, 0, 400), (0, 0, 0, 1)]), (46, [(0, (2, 20, 20)), (1, (0, 0, 1)), (2, (0, 1, 1)), (3, (0, 0, 63)), (4, (0, 0, 2147483647)), (5, (0, 0, 400))], [(0, 0, (0, 0, 0)), (0, 1, (2, 21, 21)), (0, 9, (0, 0, 0)), (0, 10, (0, 0, 0)), (0, 11, (0, 0, 400))], [(0, 0, 0, 1), (1, 5, 0, 400), (0, 0, 0, 1)])])
noncomputable def zC217 : zCt := (300, [(2, 20, 20)], [(0, 0, 9)], [], [(20, 0, 0)], 3, (0, 0, 0, 0), [(7, [(0, (2, 20, 20)), (1, (0, 0, 9)), (2, (0, 1, 11))], [(0, 0, (0, 0, 0))], [(0, 0, 0, 1), (1, 2, 0, 11), (0, 0, 0, 1)])])
noncomputable def zC218 : zCt := (301, [(2, 20, 20)], [(0, -1, 5)], [], [(20, 0, 0)], 6, (0, 0, 0, 0), [(9, [(0, (2, 20, 20)), (1, (0, -1, 5)), (2, (0, -1, 2147483647)), (3, (0, 0, 6))], [(0, 0, (0, 0, 0))], [(0, 0, 0, 1), (1, 3, 0, 6), (0, 0, 0, 1)])])
noncomputable def zC219 : zCt := (302, [(2, 20, 20)], [zFull], [], [(20, 0, 0)], 3, (0, 0, 0, 0), [(7, [(0, (2, 20, 20)), (1, zFull), (2, (0, 0, 8))], [(0, 0, (0, 0, 0))], [(0, 0, 0, 1), (1, 2, 0, 8), (0, 0, 0, 1)])])
noncomputable def zC220 : zCt := (303, [(2, 20, 20)], [zFull], [], [], 2, (0, 0, 0, 0), [(4, [(0, (2, 20, 20)), (1, zFull), (2, (0, 0, 6))], [], [(0, 0, 0, 1), (1, 2, 0, 6), (0, 0, 0, 1)])])
noncomputable def zC221 : zCt := (307, [(2, 20, 20), zFull, (0, 0, 1)], [zFull], [], [(20, 0, 0)], 2, (0, 0, 0, 0), [(23, [(0, (2, 20, 20)), (1, (0, 0, 5)), (2, (0, 0, 1)), (3, zFull), (4, zFull), (5, (0, -1, 59))], [(0, 0, (0, 0, 0)), (0, 1, (2, 21, 21))], [(0, 0, 0, 1), (2, 5, 0, -1), (0, 0, 0, 1)])])
noncomputable def zC222 : zCt := (308, [(2, 20, 20), zFull, zFull], [zFull], [], [(20, 0, 0)], 1, (0, 0, 0, 0), [])
noncomputable def zC223 : zCt := (309, [(2, 20, 20), zFull], [zFull], [], [(20, 0, 0), (21, 15, 15)], 0, (0, 0, 0, 0), [])
noncomputable def zC224 : zCt := (310, [(2, 20, 20), zFull], [zFull], [], [(20, 0, 0)], 4, (0, 0, 0, 0), [(32, [(0, (2, 20, 20)), (1, zFull)], [(0, 0, (0, 0, 0))], [(0, 0, 0, 1)])])
noncomputable def zC225 : zCt := (236, [(2, 20, 20), zFull, zFull, (0, -1, 9), zFull], [zFull], [], [], 4, (0, 0, 0, 0), [])
noncomputable def zC226 : zCt := (202, [(2, 20, 20)], [], [], [(20, 10, 10), (20, 12, 12)], 1, (0, 0, 0, 0), [(0, [(0, (2, 20, 20))], [(0, 10, (0, 0, 400))], [(0, 0, 0, 1), (3, 0, 10, 400), (0, 0, 0, 1)])])
noncomputable def zC227 : zCt := (203, [(2, 20, 20)], [], [], [(20, 10, 10), (20, 12, 12)], 2, (0, 0, 0, 0), [(2, [(0, (2, 20, 20))], [(0, 10, (0, 0, 400))], [(0, 0, 0, 1), (3, 0, 10, 400), (0, 0, 0, 1)])])
noncomputable def zC228 : zCt := (213, [(2, 20, 20), zFull, (0, -1, 5)], [], [], [(21, 16, 39)], 1, (0, 0, 0, 0), [(2, [(0, (2, 20, 20)), (1, zFull), (2, (0, -1, 5)), (3, (0, 0, 24))], [], [(0, 0, 0, 1), (1, 3, 0, 24), (0, 0, 0, 1)])])
noncomputable def zC229 : zCt := (207, [(2, 20, 20), (0, 0, 0), (0, -1, 5)], [(0, -1, 5)], [], [(20, 10, 10), (20, 12, 12)], 2, (0, 0, 0, 0), [(4, [(0, (2, 20, 20)), (1, (0, 0, 0)), (2, (0, -1, 5)), (3, zFull)], [(0, 10, (0, 0, 400))], [(0, 0, 0, 2), (3, 0, 10, 400), (0, 0, 0, 1)]), (37, [(0, (2, 20, 20)), (1, (0, 0, 0)), (2, (0, -1, 5)), (3, zFull)], [(0, 10, (0, 0, 400)), (0, 11, (0, 0, 400))], [(0, 0, 0, 1), (0, 0, 0, 0), (0, 0, 0, 0)])])
noncomputable def zC230 : zCt := (207, [(2, 20, 20), (0, 0, 0), (0, 9, 9)], [(0, -1, 9)], [], [(20, 10, 10), (20, 12, 12)], 2, (0, 0, 0, 0), [(4, [(0, (2, 20, 20)), (1, (0, 0, 0)), (2, (0, 9, 9)), (3, zFull)], [(0, 10, (0, 0, 400))], [(0, 0, 0, 2), (3, 0, 10, 400), (0, 0, 0, 1)]), (37, [(0, (2, 20, 20)), (1, (0, 0, 0)), (2, (0, 9, 9)), (3, zFull)], [(0, 10, (0, 0, 400)), (0, 11, (0, 0, 400))], [(0, 0, 0, 1), (0, 0, 0, 0), (0, 0, 0, 0)])])
noncomputable def zC231 : zCt := (207, [(2, 20, 20), (0, 0, 0), (0, 20, 20)], [(0, -1, 20)], [], [(20, 10, 10), (20, 12, 12)], 2, (0, 0, 0, 0), [(4, [(0, (2, 20, 20)), (1, (0, 0, 0)), (2, (0, 20, 20)), (3, zFull)], [(0, 10, (0, 0, 400))], [(0, 0, 0, 2), (3, 0, 10, 400), (0, 0, 0, 1)]), (37, [(0, (2, 20, 20)), (1, (0, 0, 0)), (2, (0, 20, 20)), (3, zFull)], [(0, 10, (0, 0, 400)), (0, 11, (0, 0, 400))], [(0, 0, 0, 1), (0, 0, 0, 0), (0, 0, 0, 0)])])
noncomputable def zC232 : zCt := (207, [(2, 20, 20), (0, 0, 0), (0, 23, 23)], [(0, -1, 23)], [], [(20, 10, 10), (20, 12, 12)], 2, (0, 0, 0, 0), [(4, [(0, (2, 20, 20)), (1, (0, 0, 0)), (2, (0, 23, 23)), (3, zFull)], [(0, 10, (0, 0, 400))], [(0, 0, 0, 2), (3, 0, 10, 400), (0, 0, 0, 1)]), (37, [(0, (2, 20, 20)), (1, (0, 0, 0)), (2, (0, 23, 23)), (3, zFull)], [(0, 10, (0, 0, 400)), (0, 11, (0, 0, 400))], [(0, 0, 0, 1), (0, 0, 0, 0), (0, 0, 0, 0)])])
noncomputable def zC233 : zCt := (207, [(2, 20, 20), (0, 0, 0), (0, 99, 99)], [(0, -1, 99)], [], [(20, 10, 10), (20, 12, 12)], 2, (0, 0, 0, 0), [(4, [(0, (2, 20, 20)), (1, (0, 0, 0)), (2, (0, 99, 99)), (3, zFull)], [(0, 10, (0, 0, 400))], [(0, 0, 0, 2), (3, 0, 10, 400), (0, 0, 0, 1)]), (37, [(0, (2, 20, 20)), (1, (0, 0, 0)), (2, (0, 99, 99)), (3, zFull)], [(0, 10, (0, 0, 400)), (0, 11, (0, 0, 400))], [(0, 0, 0, 1), (0, 0, 0, 0), (0, 0, 0, 0)])])
noncomputable def zC234 : zCt := (207, [(2, 20, 20), (0, 0, 0), (0, 100, 100)], [(0, -1, 100)], [], [(20, 10, 10), (20, 12, 12)], 2, (0, 0, 0, 0), [(4, [(0, (2, 20, 20)), (1, (0, 0, 0)), (2, (0, 100, 100)), (3, zFull)], [(0, 10, (0, 0, 400))], [(0, 0, 0, 2), (3, 0, 10, 400), (0, 0, 0, 1)]), (37, [(0, (2, 20, 20)), (1, (0, 0, 0)), (2, (0, 100, 100)), (3, zFull)], [(0, 10, (0, 0, 400)), (0, 11, (0, 0, 400))], [(0, 0, 0, 1), (0, 0, 0, 0), (0, 0, 0, 0)])])
noncomputable def zC235 : zCt := (207, [(2, 20, 20), (0, 0, 0), (0, 999, 999)], [(0, -1, 999)], [], [(20, 10, 10), (20, 12, 12)], 2, (0, 0, 0, 0), [(4, [(0, (2, 20, 20)), (1, (0, 0, 0)), (2, (0, 999, 999)), (3, zFull)], [(0, 10, (0, 0, 400))], [(0, 0, 0, 2), (3, 0, 10, 400), (0, 0, 0, 1)]), (37, [(0, (2, 20, 20)), (1, (0, 0, 0)), (2, (0, 999, 999)), (3, zFull)], [(0, 10, (0, 0, 400)), (0, 11, (0, 0, 400))], [(0, 0, 0, 1), (0, 0, 0, 0), (0, 0, 0, 0)])])
noncomputable def zC236 : zCt := (207, [(2, 20, 20), (0, 1, 1), (0, 9, 9)], [(0, -1, 9)], [], [(20, 10, 10), (20, 12, 12)], 2, (0, 0, 0, 0), [(4, [(0, (2, 20, 20)), (1, (0, 1, 1)), (2, (0, 9, 9)), (3, zFull)], [(0, 10, (0, 0, 400))], [(0, 0, 0, 2), (3, 0, 10, 400), (0, 0, 0, 1)]), (37, [(0, (2, 20, 20)), (1, (0, 1, 1)), (2, (0, 9, 9)), (3, zFull)], [(0, 10, (0, 0, 400)), (0, 11, (0, 0, 400))], [(0, 0, 0, 1), (0, 0, 0, 0), (0, 0, 0, 0)])])
noncomputable def zC237 : zCt := (219, [(2, 20, 20)], [(0, 0, 1)], [], [(20, 10, 10), (20, 12, 12), (21, 1, 1), (21, 64, 87)], 10, (0, 0, 0, 0), [])
noncomputable def zC238 : zCt := (212, [(2, 20, 20)], [zFull], [], [(20, 10, 10), (20, 12, 12)], 20, (0, 0, 0, 0), [])
noncomputable def zC239 : zCt := (238, [(2, 20, 20), zFull, (0, -1, 9), zFull], [zFull], [], [(28, 0, 399)], 22, (0, 0, 0, 0), [])
noncomputable def zC240 : zCt := (287, [(2, 20, 20), (0, 0, 23)], [(0, 0, 1)], [], [(20, 22, 22), (29, 0, 23), (30, 0, 5), (31, 0, 5), (32, 0, 5)], 20, (0, 0, 0, 0), [])
noncomputable def zC241 : zCt := (312, [zFull, (0, 24, 24)], [(0, 0, 23)], [], [], 0, (0, 0, 0, 0), [])
noncomputable def zC242 : zCt := (312, [zFull, (0, 24, 24)], [(0, 0, 23)], [], [], 0, (0, 0, 0, 0), [])
noncomputable def zC243 : zCt := (42, [(2, 100, 112), zFull, (2, 12, 12)], [zFull], [], [(34, 0, 31)], 20, (0, 0, 0, 0), [])
noncomputable def zC244 : zCt := (312, [zFull, (0, 24, 24)], [(0, 0, 23)], [], [], 0, (0, 0, 0, 0), [])
noncomputable def zC245 : zCt := (31, [(2, 8, 8), zFull, zFull], [zFull], [], [(12, 0, 7), (34, 0, 31)], 21, (0, 0, 0, 0), [])
noncomputable def zC246 : zCt := (30, [(2, 8, 8), zFull, zFull], [zFull], [], [(12, 0, 7), (34, 0, 31)], 21, (0, 0, 0, 0), [])
noncomputable def zC247 : zCt := (125, [(2, 1, 1), zFull, zFull, zFull], [zFull], [2, 3], [(12, 0, 7), (34, 0, 31)], 22, (0, 0, 1, 6), [])
noncomputable def zC248 : zCt := (32, [(2, 8, 8), zFull], [zFull], [], [(12, 0, 7), (34, 0, 31)], 21, (0, 0, 0, 0), [])
noncomputable def zC249 : zCt := (126, [(2, 1, 1), zFull, zFull], [zFull], [2, 3], [(12, 0, 7), (34, 0, 31)], 22, (0, 0, 1, 6), [])
noncomputable def zC250 : zCt := (37, [(2, 8, 8), zFull], [zFull], [], [(10, 0, 5), (11, 2, 2), (12, 0, 7), (13, 1, 2), (14, 0, 299), (34, 0, 31)], 22, (0, 0, 0, 0), [(4, [(0, (2, 8, 8)), (1, zFull), (2, zFull), (3, (0, 0, 8))], [], [(0, 0, 0, 1), (1, 3, 0, 8), (0, 0, 0, 2)]), (30, [(0, (2, 8, 8)), (1, zFull), (2, zFull), (3, (0, 0, 7)), (4, zFull)], [(0, 1, (2, 9, 9)), (0, 2, (2, 11, 11))], [(0, 0, 0, 1), (1, 3, 0, 8), (0, 0, 0, 1)])])
noncomputable def zC251 : zCt := (34, [(2, 8, 8), (0, 0, 1)], [zFull], [], [(8, 7, 12), (8, 17, 17), (10, 0, 5), (11, 2, 2), (12, 0, 7), (13, 1, 2), (14, 0, 299), (34, 0, 31)], 23, (0, 0, 0, 0), [(34, [(0, (2, 8, 8)), (1, (0, 0, 1)), (2, zFull)], [(0, 0, (2, 16, 16)), (0, 7, zFull)], [(0, 0, 0, 3)]), (48, [(0, (2, 8, 8)), (1, (0, 0, 1)), (2, zFull)], [(0, 0, (2, 16, 16)), (0, 7, zFull), (0, 9, (0, 0, 2147483647)), (0, 13, zFull)], [(0, 0, 0, 2)]), (50, [(0, (2, 8, 8)), (1, (0, 0, 1)), (2, zFull)], [(0, 0, (2, 16, 16)), (0, 7, (0, -2147483648, 23)), (0, 9, (0, 0, 2147483647)), (0, 13, zFull)], [(0, 0, 0, 1)])])
noncomputable def zC252 : zCt := (135, [(2, 1, 1), zFull], [zFull], [0], [(8, 5, 17), (9, 4, 4), (10, 0, 5), (11, 2, 3), (12, 0, 7), (13, 1, 2), (14, 0, 299), (16, 0, 23), (17, 1, 2), (34, 0, 31)], 24, (0, 0, 1, 6), [(14, [(0, (2, 1, 1)), (1, (0, 1, 100)), (2, zFull), (3, (0, 0, 100))], [(0, 2, (2, 8, 8)), (0, 5, (2, 17, 17))], [(0, 0, 0, 1), (1, 3, 0, 100), (0, 0, 0, 1)])])
noncomputable def zC253 : zCt := (151, [(2, 1, 1), zFull, zFull], [zFull], [0, 3], [(8, 5, 17), (9, 4, 4), (10, 0, 5), (11, 2, 3), (12, 0, 7), (13, 1, 2), (14, 0, 299), (16, 0, 23), (34, 0, 31)], 24, (0, 0, 1, 6), [(16, [(0, (2, 1, 1)), (1, (0, 0, 200)), (2, (0, 0, 2)), (3, (0, 0, 200))], [(0, 2, (2, 8, 8)), (0, 3, (2, 8, 8))], [(0, 0, 0, 1), (1, 3, 0, 200), (0, 0, 0, 1)])])
noncomputable def zC254 : zCt := (152, [(2, 1, 1), zFull], [(0, -1, 200)], [0], [(8, 5, 17), (9, 4, 4), (10, 0, 5), (11, 2, 3), (12, 0, 7), (13, 1, 2), (14, 0, 299), (16, 0, 23), (34, 0, 31)], 24, (0, 0, 1, 6), [(12, [(0, (2, 1, 1)), (1, (0, 1, 99)), (2, (0, 0, 201))], [(0, 2, (2, 8, 8)), (0, 3, (2, 8, 8))], [(0, 0, 0, 1), (1, 2, 0, 201), (0, 0, 0, 1)])])
noncomputable def zC255 : zCt := (153, [(2, 1, 1), zFull], [(0, 0, 200)], [0], [(8, 5, 17), (9, 4, 4), (10, 0, 5), (11, 2, 3), (12, 0, 7), (13, 1, 2), (14, 0, 299), (16, 0, 23), (34, 0, 31)], 24, (0, 0, 1, 6), [(18, [(0, (2, 1, 1)), (1, (0, 1, 200)), (2, (0, 0, 200)), (3, zFull), (4, (0, 1, 201))], [(0, 2, (2, 8, 8)), (0, 3, (2, 8, 8))], [(0, 0, 0, 1), (1, 4, 0, 201), (0, 0, 0, 1)])])
noncomputable def zC256 : zCt := (154, [(2, 1, 1), zFull], [(0, -1, 200)], [2], [(8, 5, 17), (9, 4, 4), (10, 0, 5), (11, 2, 3), (12, 0, 7), (13, 1, 2), (14, 0, 299), (16, 0, 23), (34, 0, 31)], 24, (0, 0, 1, 6), [(10, [(0, (2, 1, 1)), (1, (0, 0, 5)), (2, (0, 0, 201))], [(0, 2, (2, 8, 8)), (0, 3, (2, 8, 8))], [(0, 0, 0, 1), (1, 2, 0, 201), (0, 0, 0, 1)])])
noncomputable def zC257 : zCt := (157, [(2, 1, 1), zFull, (0, 0, 1)], [zFull], [0], [(8, 5, 17), (9, 4, 4), (10, 0, 5), (11, 2, 3), (12, 0, 7), (13, 1, 2), (14, 0, 299), (16, 0, 23), (34, 0, 31)], 24, (0, 0, 1, 6), [(22, [(0, (2, 1, 1)), (1, (0, 0, 200)), (2, (0, 1, 1)), (3, (0, 0, 200))], [(0, 2, (2, 8, 8)), (0, 3, (2, 8, 8))], [(0, 0, 0, 1), (1, 3, 0, 200), (0, 0, 0, 1)])])
noncomputable def zC258 : zCt := (250, [(2, 20, 20), zFull, zFull, zFull], [zFull], [], [(20, 0, 0), (28, 0, 399)], 24, (0, 0, 0, 0), [])
noncomputable def zC259 : zCt := (251, [(2, 20, 20), zFull, zFull], [zFull], [], [(20, 0, 0), (28, 0, 399)], 24, (0, 0, 0, 0), [])
noncomputable def zC260 : zCt := (264, [(2, 20, 20), (0, 0, 5)], [zFull], [], [(21, 14, 14), (21, 40, 60), (21, 66, 387), (28, 0, 399)], 24, (0, 0, 0, 0), [(4, [(0, (2, 20, 20)), (1, (0, 0, 5)), (2, zFull), (3, (0, 0, 8))], [], [(0, 0, 0, 1), (1, 3, 0, 8), (0, 0, 0, 1)])])
noncomputable def zC261 : zCt := (265, [(2, 20, 20), (0, 0, 1)], [zFull], [], [(21, 4, 9), (21, 14, 15), (21, 40, 60), (21, 66, 387), (28, 0, 399)], 25, (0, 0, 0, 0), [(46, [(0, (2, 20, 20)), (1, (0, 0, 1)), (2, (0, -1, 5))], [(0, 1, (2, 21, 21))], [(0, 0, 0, 3)]), (66, [(0, (2, 20, 20)), (1, (0, 0, 1)), (2, (0, -1, 5))], [(0, 1, (2, 21, 21))], [(0, 0, 0, 2)]), (92, [(0, (2, 20, 20)), (1, (0, 0, 1)), (2, (0, -1, 5))], [(0, 1, (2, 21, 21))], [(0, 0, 0, 1)])])
noncomputable def zC262 : zCt := (268, [(2, 20, 20), zFull, (0, 0, 1)], [zFull], [], [(21, 4, 9), (21, 14, 15), (21, 40, 60), (21, 66, 387), (28, 0, 399)], 26, (0, 0, 0, 0), [(4, [(0, (2, 20, 20)), (1, zFull), (2, (0, 0, 1)), (3, zFull), (4, (0, 0, 2147483647))], [], [(0, 0, 0, 1), (1, 4, 0, 2147483647), (0, 0, 0, 1)])])
noncomputable def zC263 : zCt := (269, [(2, 20, 20), zFull], [zFull], [], [(20, 0, 0), (20, 7, 7), (21, 4, 9), (21, 14, 15), (21, 40, 60), (21, 66, 387), (25, 0, 4655), (28, 0, 399)], 27, (0, 0, 0, 0), [])
noncomputable def zC264 : zCt := (270, [(2, 20, 20), zFull, zFull], [zFull], [], [(20, 0, 0), (21, 0, 387), (24, 0, 387), (28, 0, 399)], 27, (0, 0, 0, 0), [])
noncomputable def zC265 : zCt := (271, [(2, 20, 20), zFull], [(0, -1, 200)], [], [(20, 0, 0), (21, 0, 387), (24, 0, 387), (28, 0, 399)], 26, (0, 0, 0, 0), [(23, [(0, (2, 20, 20)), (1, (0, 1, 99)), (2, (0, -1, 200)), (3, (0, 0, 201))], [(0, 0, (0, 0, 0))], [(0, 0, 0, 1), (1, 3, 0, 201), (0, 0, 0, 1)])])
noncomputable def zC266 : zCt := (272, [(2, 20, 20), zFull], [(0, 0, 200)], [], [(20, 0, 0), (21, 0, 387), (24, 0, 387), (28, 0, 399)], 26, (0, 0, 0, 0), [(25, [(0, (2, 20, 20)), (1, (0, 1, 200)), (2, (0, 0, 200)), (3, (0, -1, 2147483647)), (4, (0, 0, 201))], [(0, 0, (0, 0, 0))], [(0, 0, 0, 1), (1, 4, 0, 201), (0, 0, 0, 1)])])
noncomputable def zC267 : zCt := (273, [(2, 20, 20), zFull], [(0, -1, 200)], [], [(20, 0, 0), (21, 0, 387), (24, 0, 387), (28, 0, 399)], 26, (0, 0, 0, 0), [(18, [(0, (2, 20, 20)), (1, (0, 0, 5)), (2, (0, -1, 200)), (3, (0, 0, 201))], [(0, 0, (0, 0, 0)), (0, 1, (2, 21, 21))], [(0, 0, 0, 1), (1, 3, 0, 201), (0, 0, 0, 1)])])
noncomputable def zC268 : zCt := (288, [(2, 20, 20)], [zFull], [], [(20, 0, 0), (20, 22, 22), (29, 0, 23), (30, 0, 5), (31, 0, 5), (32, 0, 5)], 21, (0, 0, 0, 0), [(5, [(0, (2, 20, 20)), (1, (0, 0, 24))], [(0, 0, (0, 0, 0))], [(0, 0, 0, 3), (1, 1, 0, 24), (0, 0, 0, 1)]), (17, [(0, (2, 20, 20)), (1, (0, 0, 6))], [(0, 0, (0, 0, 0))], [(0, 0, 0, 2), (1, 1, 0, 6), (0, 0, 0, 1)]), (31, [(0, (2, 20, 20)), (1, zFull), (2, (0, 0, 24))], [(0, 0, (0, 0, 0))], [(0, 0, 0, 1), (1, 2, 0, 24), (0, 0, 0, 1)])])
noncomputable def zC269 : zCt := (304, [(2, 20, 20), zFull, (0, 0, 1)], [zFull], [], [(20, 0, 0), (21, 0, 387), (24, 0, 387), (28, 0, 399)], 27, (0, 0, 0, 0), [])
noncomputable def zC270 : zCt := (305, [(2, 20, 20), zFull, (0, 0, 1)], [zFull], [], [(20, 0, 0), (21, 0, 387), (24, 0, 387), (28, 0, 399)], 27, (0, 0, 0, 0), [(23, [(0, (2, 20, 20)), (1, (0, 0, 200)), (2, (0, 0, 1)), (3, zFull), (4, (0, 1, 7))], [(0, 0, (0, 0, 0))], [(0, 0, 0, 1), (1, 4, 0, 7), (0, 0, 0, 1)])])
noncomputable def zC271 : zCt := (214, [(2, 20, 20)], [(0, 0, 1)], [], [(20, 10, 10), (20, 12, 12), (21, 0, 0), (21, 16, 63)], 21, (0, 0, 0, 0), [])
noncomputable def zC272 : zCt := (220, [(2, 20, 20)], [(0, 0, 1)], [], [(20, 10, 10), (20, 12, 12), (21, 0, 1), (21, 4, 4), (21, 10, 13), (21, 16, 87)], 22, (0, 0, 0, 0), [])
noncomputable def zC273 : zCt := (230, [(2, 20, 20), (0, 1, 1)], [(0, -1, 14)], [], [(20, 0, 0), (20, 9, 12), (20, 16, 16), (21, 0, 1), (21, 4, 4), (21, 10, 13), (21, 16, 87)], 24, (0, 0, 0, 0), [(16, [(0, (2, 20, 20)), (1, (0, 1, 1)), (2, (0, 0, 14))], [(0, 0, (0, 0, 0)), (0, 9, (0, 0, 0)), (0, 10, (0, 0, 400)), (0, 11, (0, 0, 400)), (0, 16, (0, 0, 0))], [(0, 0, 0, 1), (1, 2, 0, 14), (0, 0, 0, 1)])])
noncomputable def zC274 : zCt := (315, [(2, 1, 1), (2, 33, 33)], [(0, 0, 2)], [], [(1, 7, 7), (2, 1, 3), (8, 5, 17), (9, 4, 4), (10, 0, 5), (11, 2, 3), (12, 0, 7), (13, 1, 2), (14, 0, 299), (16, 0, 23), (17, 2, 2), (33, 0, 0)], 13, (1, 6, 0, 0), [])
noncomputable def zC275 : zCt := (312, [zFull, (0, 24, 24)], [(0, 0, 23)], [], [], 0, (0, 0, 0, 0), [])
noncomputable def zC276 : zCt := (317, [(2, 1, 1), zFull, (2, 33, 33)], [(0, 0, 1)], [], [(33, 0, 0)], 8, (1, 6, 0, 0), [])
noncomputable def zC277 : zCt := (318, [(2, 1, 1), zFull, zFull, (2, 33, 33)], [(0, 0, 2)], [], [(33, 0, 0)], 8, (1, 6, 0, 0), [])
noncomputable def zC278 : zCt := (319, [(2, 1, 1), zFull, zFull, zFull, (2, 33, 33)], [(0, 0, 2)], [], [(12, 0, 7), (33, 0, 0), (34, 0, 31)], 23, (1, 6, 0, 0), [])
noncomputable def zC279 : zCt := (320, [(2, 1, 1), zFull, zFull, (2, 33, 33)], [(0, 0, 2)], [], [(12, 0, 7), (33, 0, 0), (34, 0, 31)], 23, (1, 6, 0, 0), [])
noncomputable def zC280 : zCt := (321, [(2, 1, 1), zFull, zFull, (2, 33, 33)], [(0, 0, 3)], [], [(8, 5, 17), (9, 4, 4), (10, 0, 5), (11, 2, 3), (12, 0, 7), (13, 1, 2), (14, 0, 299), (16, 0, 23), (17, 1, 2), (33, 0, 0)], 10, (1, 6, 0, 0), [])
noncomputable def zC281 : zCt := (322, [(2, 1, 1), zFull, zFull, (2, 33, 33)], [(0, 0, 2)], [], [(8, 5, 17), (9, 4, 4), (10, 0, 5), (11, 2, 3), (12, 0, 7), (13, 1, 2), (14, 0, 299), (16, 0, 23), (17, 1, 2), (33, 0, 0)], 10, (1, 6, 0, 0), [])
noncomputable def zC282 : zCt := (323, [(2, 1, 1), zFull, zFull, (2, 33, 33)], [(0, 0, 3)], [], [(8, 5, 17), (9, 4, 4), (10, 0, 5), (11, 2, 3), (12, 0, 7), (13, 1, 2), (14, 0, 299), (16, 0, 23), (17, 1, 2), (33, 0, 0)], 10, (1, 6, 0, 0), [])
noncomputable def zC283 : zCt := (324, [(2, 1, 1), zFull, (2, 33, 33)], [(0, 0, 2)], [], [(8, 5, 17), (9, 4, 4), (10, 0, 5), (11, 2, 3), (12, 0, 7), (13, 1, 2), (14, 0, 299), (16, 0, 23), (17, 1, 2), (33, 0, 0)], 10, (1, 6, 0, 0), [])
noncomputable def zC284 : zCt := (325, [(2, 1, 1), zFull, (2, 33, 33)], [(0, 0, 2)], [], [(8, 5, 17), (9, 4, 4), (10, 0, 5), (11, 2, 3), (12, 0, 7), (13, 1, 2), (14, 0, 299), (16, 0, 23), (17, 1, 2), (33, 0, 0)], 10, (1, 6, 0, 0), [])
noncomputable def zC285 : zCt := (326, [(2, 1, 1), zFull, (2, 33, 33)], [(0, 0, 2)], [], [(8, 5, 17), (9, 4, 4), (10, 0, 5), (11, 2, 3), (12, 0, 7), (13, 1, 2), (14, 0, 299), (16, 0, 23), (17, 1, 2), (33, 0, 0)], 10, (1, 6, 0, 0), [])
noncomputable def zC286 : zCt := (327, [(2, 1, 1), (2, 33, 33)], [(0, 0, 1)], [], [(8, 5, 17), (9, 4, 4), (10, 0, 5), (11, 2, 3), (12, 0, 7), (13, 1, 2), (14, 0, 299), (16, 0, 23), (17, 1, 2), (33, 0, 0)], 10, (1, 6, 0, 0), [])
noncomputable def zC287 : zCt := (328, [(2, 1, 1), zFull, (2, 33, 33)], [(0, 0, 1)], [], [(8, 5, 17), (9, 4, 4), (10, 0, 5), (11, 2, 3), (12, 0, 7), (13, 1, 2), (14, 0, 299), (16, 0, 23), (17, 1, 2), (33, 0, 0), (34, 0, 31)], 25, (1, 6, 0, 0), [])
noncomputable def zC288 : zCt := (329, [(2, 1, 1), zFull, zFull, (2, 33, 33)], [(0, 0, 2)], [], [(33, 0, 0)], 8, (1, 6, 0, 0), [])
noncomputable def zC289 : zCt := (330, [(2, 1, 1), zFull, zFull, (2, 33, 33)], [(0, 0, 2)], [], [(33, 0, 0)], 8, (1, 6, 0, 0), [])
noncomputable def zC290 : zCt := (331, [(2, 1, 1), zFull, (2, 33, 33)], [(0, 0, 1)], [], [(33, 0, 0)], 8, (1, 6, 0, 0), [])
noncomputable def zC291 : zCt := (332, [(2, 1, 1), zFull, zFull, zFull, (2, 33, 33)], [(0, 0, 2)], [], [(33, 0, 0)], 8, (1, 6, 0, 0), [])
noncomputable def zC292 : zCt := (333, [(2, 1, 1), (0, 0, 1), (2, 33, 33)], [(0, 0, 1)], [], [(2, 1, 1), (33, 0, 0)], 7, (1, 6, 0, 0), [])
noncomputable def zC293 : zCt := (334, [(2, 1, 1), zFull, (2, 33, 33)], [(0, 0, 1)], [], [(33, 0, 0)], 8, (1, 6, 0, 0), [])
noncomputable def zC294 : zCt := (335, [(2, 1, 1), zFull, zFull, (2, 33, 33)], [(0, 0, 2)], [], [(8, 5, 17), (9, 4, 4), (10, 0, 5), (11, 2, 3), (12, 0, 7), (13, 1, 2), (14, 0, 299), (16, 0, 23), (33, 0, 0), (34, 0, 31)], 25, (1, 6, 0, 0), [])
noncomputable def zC295 : zCt := (336, [(2, 1, 1), zFull, (2, 33, 33)], [(0, 0, 1)], [], [(8, 5, 17), (9, 4, 4), (10, 0, 5), (11, 2, 3), (12, 0, 7), (13, 1, 2), (14, 0, 299), (16, 0, 23), (33, 0, 0), (34, 0, 31)], 25, (1, 6, 0, 0), [])
noncomputable def zC296 : zCt := (337, [(2, 1, 1), zFull, (2, 33, 33)], [(0, 0, 1)], [], [(8, 5, 17), (9, 4, 4), (10, 0, 5), (11, 2, 3), (12, 0, 7), (13, 1, 2), (14, 0, 299), (16, 0, 23), (33, 0, 0), (34, 0, 31)], 25, (1, 6, 0, 0), [])
noncomputable def zC297 : zCt := (338, [(2, 1, 1), zFull, (2, 33, 33)], [(0, 0, 1)], [], [(8, 5, 17), (9, 4, 4), (10, 0, 5), (11, 2, 3), (12, 0, 7), (13, 1, 2), (14, 0, 299), (16, 0, 23), (33, 0, 0), (34, 0, 31)], 25, (1, 6, 0, 0), [])
noncomputable def zC298 : zCt := (339, [(2, 1, 1), zFull, (0, 0, 1), (2, 33, 33)], [(0, 0, 1)], [], [(8, 5, 17), (9, 4, 4), (10, 0, 5), (11, 2, 3), (12, 0, 7), (13, 1, 2), (14, 0, 299), (16, 0, 23), (33, 0, 0), (34, 0, 31)], 25, (1, 6, 0, 0), [])
noncomputable def zC299 : zCt := (340, [(2, 1, 1), zFull, (0, 0, 1), (2, 33, 33)], [(0, 0, 1)], [], [(33, 0, 0)], 8, (1, 6, 0, 0), [])
noncomputable def zC300 : zCt := (341, [(2, 1, 1), zFull, (0, 0, 1), (2, 33, 33)], [(0, 0, 1)], [], [(33, 0, 0)], 8, (1, 6, 0, 0), [])
noncomputable def zC301 : zCt := (342, [(2, 1, 1), zFull, zFull, (2, 33, 33)], [(0, 0, 1)], [], [(33, 0, 0)], 8, (1, 6, 0, 0), [])
noncomputable def zCtl : List zCt := [zC0, zC1, zC2, zC3, zC4, zC5, zC6, zC7, zC8, zC9, zC10, zC11, zC12, zC13, zC14, zC15, zC16, zC17, zC18, zC19, zC20, zC21, zC22, zC23, zC24, zC25, zC26, zC27, zC28, zC29, zC30, zC31, zC32, zC33, zC34, zC35, zC36, zC37, zC38, zC39, zC40, zC41, zC42, zC43, zC44, zC45, zC46, zC47, zC48, zC49, zC50, zC51, zC52, zC53, zC54, zC55, zC56, zC57, zC58, zC59, zC60, zC61, zC62, zC63, zC64, zC65, zC66, zC67, zC68, zC69, zC70, zC71, zC72, zC73, zC74, zC75, zC76, zC77, zC78, zC79, zC80, zC81, zC82, zC83, zC84, zC85, zC86, zC87, zC88, zC89, zC90, zC91, zC92, zC93, zC94, zC95, zC96, zC97, zC98, zC99, zC100, zC101, zC102, zC103, zC104, zC105, zC106, zC107, zC108, zC109, zC110, zC111, zC112, zC113, zC114, zC115, zC116, zC117, zC118, zC119, zC120, zC121, zC122, zC123, zC124, zC125, zC126, zC127, zC128, zC129, zC130, zC131, zC132, zC133, zC134, zC135, zC136, zC137, zC138, zC139, zC140, zC141, zC142, zC143, zC144, zC145, zC146, zC147, zC148, zC149, zC150, zC151, zC152, zC153, zC154, zC155, zC156, zC157, zC158, zC159, zC160, zC161, zC162, zC163, zC164, zC165, zC166, zC167, zC168, zC169, zC170, zC171, zC172, zC173, zC174, zC175, zC176, zC177, zC178, zC179, zC180, zC181, zC182, zC183, zC184, zC185, zC186, zC187, zC188, zC189, zC190, zC191, zC192, zC193, zC194, zC195, zC196, zC197, zC198, zC199, zC200, zC201, zC202, zC203, zC204, zC205, zC206, zC207, zC208, zC209, zC210, zC211, zC212, zC213, zC214, zC215, zC216, zC217, zC218, zC219, zC220, zC221, zC222, zC223, zC224, zC225, zC226, zC227, zC228, zC229, zC230, zC231, zC232, zC233, zC234, zC235, zC236, zC237, zC238, zC239, zC240, zC241, zC242, zC243, zC244, zC245, zC246, zC247, zC248, zC249, zC250, zC251, zC252, zC253, zC254, zC255, zC256, zC257, zC258, zC259, zC260, zC261, zC262, zC263, zC264, zC265, zC266, zC267, zC268, zC269, zC270, zC271, zC272, zC273, zC274, zC275, zC276, zC277, zC278, zC279, zC280, zC281, zC282, zC283, zC284, zC285, zC286, zC287, zC288, zC289, zC290, zC291, zC292, zC293, zC294, zC295, zC296, zC297, zC298, zC299, zC300, zC301]
noncomputable def zCand : List (List Nat) := [[70], [69], [58], [49], [63], [], [40], [], [], [], [], [], [], [], [], [127], [], [], [], [164], [147], [152], [], [71], [], [], [], [], [107], [41], [246], [245], [248], [112], [251], [122], [], [250], [165], [], [], [], [243], [], [], [], [], [104], [], [], [86, 89, 91, 93, 95, 97, 99], [83, 88, 90, 92, 94, 96, 98], [80], [79], [], [], [], [], [], [168], [167], [], [113], [172], [], [109], [], [], [108], [123], [], [], [154], [157], [156], [159], [128], [131], [130], [], [133], [142], [], [141], [], [34], [], [], [], [], [], [39, 44, 45, 46, 47, 48, 53, 54, 55, 56, 57, 61, 62, 66, 67, 68, 73, 74, 75, 76, 77, 78, 81, 82, 84, 85, 87, 100, 101, 102, 103], [], [], [], [], [38, 42, 43, 50, 51, 52, 60, 65, 64, 59], [37], [], [], [], [], [], [], [], [], [], [], [], [111], [135], [139], [137, 138], [145], [144], [], [161], [], [35], [36], [72], [], [105], [106], [110], [247], [249], [114], [115], [116], [117], [118], [119], [120], [121], [252], [124], [125], [126], [129], [132], [134], [136], [140], [143], [146], [151], [153], [155], [158], [160], [253], [254], [255], [256], [162], [163], [257], [166], [169], [170], [171], [173], [174], [175], [176], [], [], [], [], [], [], [], [150], [149], [148], [], [], [], [], [28], [29], [30], [31], [], [], [], [], [], [], [], [], [], [], [], [], [], [], [], [177], [178], [], [226], [227], [0, 1, 2, 3, 4, 5, 6, 7, 8, 9, 10, 11, 12, 13, 14, 15, 16, 17, 18, 19, 20, 21, 22, 23, 24, 25], [], [], [230, 231, 232, 233, 234, 235, 236, 229], [], [179], [], [], [238], [228], [271], [], [], [], [], [237], [272], [], [], [], [], [], [], [], [], [], [273], [], [], [191], [190], [], [225], [], [239], [], [], [], [182], [], [], [183], [184], [181], [180], [185], [258], [259], [186], [187], [], [188], [189], [], [192], [193], [194], [195], [196], [], [260], [261], [32], [33], [262], [263], [264], [265], [266], [267], [197], [], [198], [199], [200], [201], [202], [203], [204], [205], [206], [], [], [240], [268], [207], [208], [209], [], [210], [211, 212], [213], [], [214], [215], [216], [217], [218], [219], [220], [269], [270], [], [221], [222], [223], [224], [], [26, 27], [], [], [274], [], [276], [277], [278], [279], [280], [281], [282], [283], [284], [285], [286], [287], [288], [289], [290], [291], [292], [293], [294], [295], [296], [297], [298], [299], [300], [301], []]
end
section
/-! steps by hand -/
noncomputable def zJ3 (j : Nat) (M : zMi) (cs : List zI) (hs : List zHd) : Prop := z_ms[j]? = some M ∧ z_cs[j]? = some cs ∧ z_hs[j]? = some hs
noncomputable def znc (o : Nat) : Bool := decide (o ≠ 50 ∧ o ≠ 51 ∧ o ≠ 52 ∧ o ≠ 53 ∧ o ≠ 62 ∧ o ≠ 54 ∧ o ≠ 55 ∧ o ≠ 72 ∧ o ≠ 56 ∧ o ≠ 73)
section ZH
variable {sx : zX} {d j k : Nat} {lo : zL} {st : List Value} {h : zH} {Ψ : zO → zH → Nat → Nat → Prop} {M : zMi} {cs : List zI} {hs : List zHd} {i : zI}
/-- a step that makes nothing -/
theorem zh {k' : Nat} {lo' : zL} {st' : List Value} {h' : zH} (J : zJ3 j M cs hs) (hi : cs[k]? = some i) (hn : znc i.1 = true) (ho : (z_ops.getD i.1 z_no) sx d i.2.1 i.2.2.1 i.2.2.2 k lo st h = zn k' lo' st' h') (kk : z_ok sx d j k' lo' st' h' Ψ) : z_ok sx d j k lo st h Ψ := by
  have hn := of_decide_eq_true hn
  exact z_ok.step J.1 J.2.1 J.2.2 hi (z_fin_no ⟨hn.1, hn.2.1, hn.2.2.1, hn.2.2.2.1, hn.2.2.2.2.1⟩) (z_cal_non hn.2.2.2.2.2) ho kk
theorem zh_get {a b c k' : Nat} {fs : List Value} {v : Value} {z : Int} (J : zJ3 j M cs hs) (hi : cs[k]? = some (37, c, b, z)) (hk : k + 1 = k') (he : h[a]? = some (.inr (c, fs))) (hf : fs[b]? = some v) (kk : z_ok sx d j k' lo (v :: st) h Ψ) : z_ok sx d j k lo (.ref a :: st) h Ψ := by
  refine zh J hi rfl ?_ kk
  show zo_get sx d c b z k lo (.ref a :: st) h = _
  unfold zo_get
  dsimp only
  rw [he]
  dsimp only
  rw [if_pos rfl, hf, hk]
theorem zh_put {a b c k' : Nat} {fs : List Value} {v : Value} {z : Int} (J : zJ3 j M cs hs) (hi : cs[k]? = some (38, c, b, z)) (hk : k + 1 = k') (he : h[a]? = some (.inr (c, fs))) (hb : b < fs.length) (hf : z_fit z v = true) (kk : z_ok sx d j k' lo st (h.set a (.inr (c, fs.set b v))) Ψ) : z_ok sx d j k lo (v :: .ref a :: st) h Ψ := by
  refine zh J hi rfl ?_ kk
  show zo_put sx d c b z k lo (v :: .ref a :: st) h = _
  unfold zo_put
  dsimp only
  rw [he]
  dsimp only
  rw [if_pos ⟨rfl, hb, hf⟩, hk]
theorem zh_iald {a n k' p q : Nat} {f : Nat → Int32} {x : Int32} {z : Int} (J : zJ3 j M cs hs) (hi : cs[k]? = some (39, p, q, z)) (hk : k + 1 = k') (he : h[a]? = some (.inl (0, (n, .inl f)))) (h1 : 0 ≤ x.toInt) (h2 : x.toInt < (n : Int)) (kk : z_ok sx d j k' lo (.int (f x.toNatClampNeg) :: st) h Ψ) : z_ok sx d j k lo (.int x :: .ref a :: st) h Ψ := by
  refine zh J hi rfl ?_ kk
  show zo_iald sx d p q z k lo (.int x :: .ref a :: st) h = _
  unfold zo_iald
  dsimp only
  rw [he]
  show (if z_in x n = true then zn (k + 1) lo (.int (f x.toNatClampNeg) :: st) h else none) = _
  rw [if_pos (z_inn h1 h2).1, hk]
theorem zh_bald {a n k' p q : Nat} {f : Nat → Int32} {x : Int32} {z : Int} (J : zJ3 j M cs hs) (hi : cs[k]? = some (41, p, q, z)) (hk : k + 1 = k') (he : h[a]? = some (.inl (1, (n, .inl f)))) (h1 : 0 ≤ x.toInt) (h2 : x.toInt < (n : Int)) (kk : z_ok sx d j k' lo (.int (f x.toNatClampNeg) :: st) h Ψ) : z_ok sx d j k lo (.int x :: .ref a :: st) h Ψ := by
  refine zh J hi rfl ?_ kk
  show zo_bald sx d p q z k lo (.int x :: .ref a :: st) h = _
  unfold zo_bald
  dsimp only
  rw [he]
  show (if z_in x n = true then zn (k + 1) lo (.int (f x.toNatClampNeg) :: st) h else none) = _
  rw [if_pos (z_inn h1 h2).1, hk]
theorem zh_iast {a n k' p q : Nat} {f : Nat → Int32} {x v : Int32} {z : Int} (J : zJ3 j M cs hs) (hi : cs[k]? = some (40, p, q, z)) (hk : k + 1 = k') (he : h[a]? = some (.inl (0, (n, .inl f)))) (h1 : 0 ≤ x.toInt) (h2 : x.toInt < (n : Int)) (kk : z_ok sx d j k' lo st (h.set a (.inl (0, (n, .inl (upd f x.toNatClampNeg v))))) Ψ) : z_ok sx d j k lo (.int v :: .int x :: .ref a :: st) h Ψ := by
  refine zh J hi rfl ?_ kk
  show zo_iast sx d p q z k lo (.int v :: .int x :: .ref a :: st) h = _
  unfold zo_iast
  dsimp only
  rw [he]
  show (if z_in x n = true then zn (k + 1) lo st (h.set a (.inl (0, (n, .inl (upd f x.toNatClampNeg v))))) else none) = _
  rw [if_pos (z_inn h1 h2).1, hk]
theorem zh_if {a b : Nat} {x : Int32} {z : Int} (J : zJ3 j M cs hs) (hi : cs[k]? = some (31, a, b, z)) (kt : z_cmp b x 0 = true → z_ok sx d j a lo st h Ψ) (kf : ¬ z_cmp b x 0 = true → z_ok sx d j (k + 1) lo st h Ψ) : z_ok sx d j k lo (.int x :: st) h Ψ := by
  by_cases hc : z_cmp b x 0 = true
  · refine zh J hi rfl ?_ (kt hc)
    show zn (if z_cmp b x 0 = true then a else k + 1) lo st h = _
    rw [if_pos hc]
  · refine zh J hi rfl ?_ (kf hc)
    show zn (if z_cmp b x 0 = true then a else k + 1) lo st h = _
    rw [if_neg hc]
theorem zh_icmp {a b : Nat} {x y : Int32} {z : Int} (J : zJ3 j M cs hs) (hi : cs[k]? = some (32, a, b, z)) (kt : z_cmp b x y = true → z_ok sx d j a lo st h Ψ) (kf : ¬ z_cmp b x y = true → z_ok sx d j (k + 1) lo st h Ψ) : z_ok sx d j k lo (.int y :: .int x :: st) h Ψ := by
  by_cases hc : z_cmp b x y = true
  · refine zh J hi rfl ?_ (kt hc)
    show zn (if z_cmp b x y = true then a else k + 1) lo st h = _
    rw [if_pos hc]
  · refine zh J hi rfl ?_ (kf hc)
    show zn (if z_cmp b x y = true then a else k + 1) lo st h = _
    rw [if_neg hc]
theorem zh_vret {a b : Nat} {z : Int} (J : zJ3 j M cs hs) (hi : cs[k]? = some (53, a, b, z)) (kk : Ψ (.inl none) h 0 0) : z_ok sx d j k lo [] h Ψ := z_ok.fin J.1 J.2.1 J.2.2 hi rfl kk
theorem zh_iret {a b : Nat} {z : Int} {x : Int32} (J : zJ3 j M cs hs) (hi : cs[k]? = some (50, a, b, z)) (hr : M.2.2.2.2.1 = some .int ∨ (M.2.2.2.2.1 = some .boolean ∧ (x = 0 ∨ x = 1))) (kk : Ψ (.inl (some (.int x))) h 0 0) : z_ok sx d j k lo [.int x] h Ψ := by
  refine z_ok.fin J.1 J.2.1 J.2.2 hi ?_ kk
  rw [z_fin50 rfl]
  rcases hr with e | ⟨e, e1⟩
  · rw [e]
    exact if_pos rfl
  · rw [e]
    rcases e1 with rfl | rfl
    · exact if_pos rfl
    · exact if_pos rfl
end ZH
/-- comparisons as numbers -/
theorem zcmp_ge {x y : Int32} : z_cmp 3 x y = true ↔ y.toInt ≤ x.toInt := by
  show (!decide (x < y)) = true ↔ _
  rw [Bool.not_eq_true', decide_eq_false_iff_not, Int32.lt_iff_toInt_lt]
  omega
theorem zcmp_lt {x y : Int32} : z_cmp 2 x y = true ↔ x.toInt < y.toInt := by
  show decide (x < y) = true ↔ _
  rw [decide_eq_true_eq, Int32.lt_iff_toInt_lt]
theorem zcmp_eq {x y : Int32} : z_cmp 0 x y = true ↔ x.toInt = y.toInt := by
  show decide (x = y) = true ↔ _
  rw [decide_eq_true_eq]
  exact ⟨fun e => by rw [e], fun e => Int32.toInt_inj.mp e⟩
theorem zcmp_ne {x y : Int32} : z_cmp 1 x y = true ↔ x.toInt ≠ y.toInt := by
  show (!decide (x = y)) = true ↔ _
  rw [Bool.not_eq_true', decide_eq_false_iff_not]
  exact ⟨fun e q => e (Int32.toInt_inj.mp q), fun e q => e (by rw [q])⟩
/-! Math.floorMod -/
theorem zfm_num {x y : Int32} (hy : 0 < y.toInt) : (x - x / y * y).toInt = x.toInt.tmod y.toInt := by
  have hx := zb32 x
  have hyb := zb32 y
  by_cases hp : 0 ≤ x.toInt
  · rw [zrem_ok hp hy, Int.tmod_eq_emod_of_nonneg hp]
  · have e0 : x.toInt.tdiv y.toInt = -((-x.toInt) / y.toInt) := by
      rw [show x.toInt = -(-x.toInt) by omega, Int.neg_tdiv, Int.tdiv_eq_ediv_of_nonneg (by omega), Int.neg_neg]
    have hq : 0 ≤ (-x.toInt) / y.toInt := Int.ediv_nonneg (by omega) (by omega)
    have hle : (-x.toInt) / y.toInt ≤ -x.toInt := Int.ediv_le_self _ (by omega)
    have hm : (-x.toInt) / y.toInt * y.toInt ≤ -x.toInt := Int.ediv_mul_le _ (by omega)
    have hn : 0 ≤ (-x.toInt) / y.toInt * y.toInt := Int.mul_nonneg hq (by omega)
    have e1 : (x / y).toInt = x.toInt.tdiv y.toInt := by rw [Int32.toInt_div]; exact z_bm (by omega) (by omega)
    have e2 : (x / y * y).toInt = x.toInt.tdiv y.toInt * y.toInt := by
      rw [Int32.toInt_mul, e1, e0, Int.neg_mul]
      exact z_bm (by omega) (by omega)
    rw [Int32.toInt_sub, e2, e0, Int.neg_mul, z_bm (by omega) (by omega)]
    have := Int.tmod_def x.toInt y.toInt
    rw [this, e0, Int.mul_neg, Int.mul_comm]
end
section
/-! Math.floorMod by hand -/
theorem zxor_sign (x y : Int32) (hy : 0 ≤ y.toInt) : 0 ≤ (x ^^^ y).toInt ↔ 0 ≤ x.toInt := by
  have e1 : (x ^^^ y).toInt = (x.toBitVec ^^^ y.toBitVec).toInt := by rw [← Int32.toInt_toBitVec, Int32.toBitVec_xor]
  have m1 := BitVec.msb_eq_toInt (x := x.toBitVec ^^^ y.toBitVec)
  have m2 := BitVec.msb_eq_toInt (x := x.toBitVec)
  have m3 := BitVec.msb_eq_toInt (x := y.toBitVec)
  rw [BitVec.msb_xor, m2, m3] at m1
  rw [Int32.toInt_toBitVec, Int32.toInt_toBitVec, ← e1] at m1
  have h3 : decide (y.toInt < 0) = false := by simpa using hy
  rw [h3, Bool.xor_false] at m1
  have := decide_eq_decide.mp m1
  omega
theorem zJ_312 : zJ3 312 z_m312 z_c312 z_h312 := ⟨rfl, rfl, rfl⟩
set_option maxRecDepth 100000 in
theorem zV_fm (Ex : List Nat → zH → Prop) (n : Int) (h1 : 0 < n) (h2 : n ≤ 1000) : zVd z_tt Ex (312, [zFull, (0, n, n)], [(0, 0, n - 1)], [], [], 0, (0, 0, 0, 0), []) := by
  intro sx d ty h as hd T E hA
  match as, hA with
  | [vx, vy], hA =>
  obtain ⟨x, rfl, x1, x2⟩ := hA.1
  obtain ⟨y, rfl, y1, y2⟩ := hA.2.1
  have hy : y.toInt = n := by omega
  have hy0 : ¬ y = 0 := zne0 (by omega)
  have hr := zfm_num (x := x) (y := y) (by omega)
  generalize hrr : x - x / y * y = r at hr
  have hend : ∀ (w : Int32), 0 ≤ w.toInt → w.toInt ≤ n - 1 → zPo z_tt Ex (312, [zFull, (0, n, n)], [(0, 0, n - 1)], [], [], 0, (0, 0, 0, 0), []) ty h (.inl (some (.int w))) h 0 0 := fun w w1 w2 => ⟨ty, zExt.rf, T, E, zFm.rf, ⟨w, rfl, w1, w2⟩, Nat.le_refl _, Nat.le_refl _⟩
  show z_ok sx d 312 0 [(0, .int x), (1, .int y)] [] h _
  refine zh zJ_312 (i := (1, 0, 0, 0)) rfl rfl (k' := 1) (lo' := [(0, .int x), (1, .int y)]) (st' := [.int x]) (h' := h) rfl ?_
  refine zh zJ_312 (i := (1, 1, 0, 0)) rfl rfl (k' := 2) (lo' := [(0, .int x), (1, .int y)]) (st' := [.int y, .int x]) (h' := h) rfl ?_
  refine zh zJ_312 (i := (12, 0, 0, 0)) rfl rfl (k' := 3) (lo' := [(0, .int x), (1, .int y)]) (st' := [.int r]) (h' := h) (by
    show zo_irem sx d 0 0 0 2 _ [.int y, .int x] h = _
    unfold zo_irem
    dsimp only
    rw [if_neg hy0, hrr]) ?_
  refine zh zJ_312 (i := (4, 2, 0, 0)) rfl rfl (k' := 4) (lo' := [(2, .int r), (0, .int x), (1, .int y)]) (st' := []) (h' := h) rfl ?_
  refine zh zJ_312 (i := (1, 0, 0, 0)) rfl rfl (k' := 5) (lo' := [(2, .int r), (0, .int x), (1, .int y)]) (st' := [.int x]) (h' := h) rfl ?_
  refine zh zJ_312 (i := (1, 1, 0, 0)) rfl rfl (k' := 6) (lo' := [(2, .int r), (0, .int x), (1, .int y)]) (st' := [.int y, .int x]) (h' := h) rfl ?_
  refine zh zJ_312 (i := (18, 0, 0, 0)) rfl rfl (k' := 7) (lo' := [(2, .int r), (0, .int x), (1, .int y)]) (st' := [.int (x ^^^ y)]) (h' := h) rfl ?_
  have hs := zxor_sign x y (by omega)
  have last : 0 ≤ r.toInt → z_ok sx d 312 14 [(2, .int r), (0, .int x), (1, .int y)] [] h (zPo z_tt Ex (312, [zFull, (0, n, n)], [(0, 0, n - 1)], [], [], 0, (0, 0, 0, 0), []) ty h) := fun r0 => by
    refine zh zJ_312 (i := (1, 2, 0, 0)) rfl rfl (k' := 15) (lo' := [(2, .int r), (0, .int x), (1, .int y)]) (st' := [.int r]) (h' := h) rfl ?_
    refine zh_iret zJ_312 (a := 0) (b := 0) (z := 0) rfl (Or.inl rfl) (hend r r0 ?_)
    have := Int.tmod_lt_of_pos x.toInt (b := y.toInt) (by omega)
    omega
  refine zh_if zJ_312 (a := 14) (b := 3) (z := 0) rfl (fun hc => last ?_) (fun hc => ?_)
  · have hx0 := hs.mp (zcmp_ge.mp hc)
    rw [hr]
    exact Int.tmod_nonneg _ hx0
  · have hx0 : x.toInt < 0 := by
      have : ¬ 0 ≤ (x ^^^ y).toInt := fun q => hc (zcmp_ge.mpr q)
      rw [hs] at this
      omega
    refine zh zJ_312 (i := (1, 2, 0, 0)) rfl rfl (k' := 9) (lo' := [(2, .int r), (0, .int x), (1, .int y)]) (st' := [.int r]) (h' := h) rfl ?_
    have hle : r.toInt ≤ 0 := by
      rw [hr, show x.toInt = -(-x.toInt) by omega, Int.neg_tmod]
      have := Int.tmod_nonneg (a := -x.toInt) y.toInt (by omega)
      omega
    have hgt : -n < r.toInt := by
      rw [hr, show x.toInt = -(-x.toInt) by omega, Int.neg_tmod]
      have := Int.tmod_lt_of_pos (-x.toInt) (b := y.toInt) (by omega)
      omega
    refine zh_if zJ_312 (a := 14) (b := 0) (z := 0) rfl (fun hc2 => last ?_) (fun hc2 => ?_)
    · have := zcmp_eq.mp hc2
      rw [show (0 : Int32).toInt = 0 from rfl] at this
      omega
    · have hne : r.toInt ≠ 0 := fun q => hc2 (zcmp_eq.mpr q)
      refine zh zJ_312 (i := (1, 2, 0, 0)) rfl rfl (k' := 11) (lo' := [(2, .int r), (0, .int x), (1, .int y)]) (st' := [.int r]) (h' := h) rfl ?_
      refine zh zJ_312 (i := (1, 1, 0, 0)) rfl rfl (k' := 12) (lo' := [(2, .int r), (0, .int x), (1, .int y)]) (st' := [.int y, .int r]) (h' := h) rfl ?_
      refine zh zJ_312 (i := (8, 0, 0, 0)) rfl rfl (k' := 13) (lo' := [(2, .int r), (0, .int x), (1, .int y)]) (st' := [.int (r + y)]) (h' := h) rfl ?_
      have e : (r + y).toInt = r.toInt + y.toInt := by rw [Int32.toInt_add]; exact z_bm (by omega) (by omega)
      exact zh_iret zJ_312 (a := 0) (b := 0) (z := 0) rfl (Or.inl rfl) (hend _ (by omega) (by omega))
end
section
/-! typed steps by hand; loops -/
theorem zcell {ty : List Nat} {h : zH} {a t : Nat} (T : zTY z_tt ty h) (ht : ty[a]? = some t) : ∃ e, h[a]? = some e ∧ z_sh (z_tt t) e ∧ ∀ (i : Nat) (v : Value), z_rd e i = some v → ∀ r ∈ (z_tt t).2.2.2, r.1 ≤ (i : Int) → (i : Int) ≤ r.2.1 → zG ty r.2.2 v := by
  have hl : a < h.length := by rw [← T.1]; exact (List.getElem?_eq_some_iff.mp ht).1
  have he : h[a]? = some h[a] := List.getElem?_eq_getElem hl
  exact ⟨h[a], he, T.2.2 a t _ ht he⟩
theorem zcell0 {ty : List Nat} {h : zH} {a t c n : Nat} (T : zTY z_tt ty h) (ht : ty[a]? = some t) (hk : (z_tt t).1 = 0) (hc : (z_tt t).2.1 = c) (hn : (z_tt t).2.2.1 = n) : ∃ fs : List Value, h[a]? = some (.inr (c, fs)) ∧ fs.length = n := by
  obtain ⟨e, he, hs, -⟩ := zcell T ht
  obtain ⟨fs, rfl, hl⟩ := zsh0 hs hk
  exact ⟨fs, by rw [he, hc], by rw [hl, hn]⟩
theorem zcell1 {ty : List Nat} {h : zH} {a t n : Nat} (T : zTY z_tt ty h) (ht : ty[a]? = some t) (hk : (z_tt t).1 = 1) (hn : (z_tt t).2.2.1 = n) : ∃ f : Nat → Int32, h[a]? = some (.inl (0, (n, .inl f))) := by
  obtain ⟨e, he, hs, -⟩ := zcell T ht
  obtain ⟨f, rfl⟩ := zsh1 hs hk
  exact ⟨f, by rw [he, hn]⟩
theorem zcell2 {ty : List Nat} {h : zH} {a t n : Nat} (T : zTY z_tt ty h) (ht : ty[a]? = some t) (hk : (z_tt t).1 = 2) (hn : (z_tt t).2.2.1 = n) : ∃ f : Nat → Int32, h[a]? = some (.inl (1, (n, .inl f))) := by
  obtain ⟨e, he, hs, -⟩ := zcell T ht
  obtain ⟨f, rfl⟩ := zsh2 hs hk
  exact ⟨f, by rw [he, hn]⟩
/-- a field's value, of its region -/
theorem zfd {ty : List Nat} {h : zH} {a t c b : Nat} {fs : List Value} {A : zA} (T : zTY z_tt ty h) (ht : ty[a]? = some t) (he : h[a]? = some (.inr (c, fs))) (hb : b < fs.length) (hr : zrg (z_tt t).2.2.2 (b : Int) (b : Int) = some A) : ∃ v, fs[b]? = some v ∧ zG ty A v := by
  obtain ⟨r, hm, r1, r2, hg⟩ := zrg_ok _ _ _ _ hr (b : Int) (Int.le_refl _) (Int.le_refl _)
  have hv : fs[b]? = some fs[b] := List.getElem?_eq_getElem hb
  exact ⟨fs[b], hv, hg ty _ ((T.2.2 a t _ ht he).2 b _ hv r hm r1 r2)⟩
/-- a place's value in an array of ints -/
theorem zel {ty : List Nat} {h : zH} {a t n i : Nat} {f : Nat → Int32} {A : zA} {lo hi : Int} (T : zTY z_tt ty h) (ht : ty[a]? = some t) (he : h[a]? = some (.inl (0, (n, .inl f)))) (hi1 : i < n) (hr : zrg (z_tt t).2.2.2 lo hi = some A) (h1 : lo ≤ (i : Int)) (h2 : (i : Int) ≤ hi) : zG ty A (.int (f i)) := by
  obtain ⟨r, hm, r1, r2, hg⟩ := zrg_ok _ _ _ _ hr (i : Int) h1 h2
  exact hg ty _ ((T.2.2 a t _ ht he).2 i _ (by rw [z_rd0, if_pos hi1]) r hm r1 r2)
theorem zint {ty : List Nat} {lo hi : Int} {x : Int32} (g : zG ty (0, lo, hi) (.int x)) : lo ≤ x.toInt ∧ x.toInt ≤ hi := by
  obtain ⟨y, e, h1, h2⟩ := g
  cases e
  exact ⟨h1, h2⟩
/-- a field that holds a cell of one type -/
theorem zfd2 {ty : List Nat} {h : zH} {a t c b u : Nat} {fs : List Value} (T : zTY z_tt ty h) (ht : ty[a]? = some t) (he : h[a]? = some (.inr (c, fs))) (hb : b < fs.length) (hr : zrg (z_tt t).2.2.2 (b : Int) (b : Int) = some (2, (u : Int), (u : Int))) : ∃ w : Nat, fs[b]? = some (.ref w) ∧ ty[w]? = some u := by
  obtain ⟨v, hv, g⟩ := zfd T ht he hb hr
  obtain ⟨w, t9, rfl, h1, h2, h3⟩ := g
  have : t9 = u := by omega
  subst this
  exact ⟨w, hv, h1⟩
theorem zfd0 {ty : List Nat} {h : zH} {a t c b : Nat} {fs : List Value} {lo hi : Int} (T : zTY z_tt ty h) (ht : ty[a]? = some t) (he : h[a]? = some (.inr (c, fs))) (hb : b < fs.length) (hr : zrg (z_tt t).2.2.2 (b : Int) (b : Int) = some (0, lo, hi)) : ∃ x : Int32, fs[b]? = some (.int x) ∧ lo ≤ x.toInt ∧ x.toInt ≤ hi := by
  obtain ⟨v, hv, g⟩ := zfd T ht he hb hr
  obtain ⟨x, rfl, h1, h2⟩ := g
  exact ⟨x, hv, h1, h2⟩
/-- a place of an array of ints is written: what stays -/
theorem zwr {ms : List zMod} {ty : List Nat} {h : zH} {a t n i : Nat} {f : Nat → Int32} {x : Int32} (T : zTY z_tt ty h) (ht : ty[a]? = some t) (he : h[a]? = some (.inl (0, (n, .inl f)))) (hi : i < n) (hv : ∀ r ∈ (z_tt t).2.2.2, r.1 ≤ (i : Int) → (i : Int) ≤ r.2.1 → zG ty r.2.2 (.int x)) (hm : zIn ms t i) : zTY z_tt ty (h.set a (.inl (0, (n, .inl (upd f i x))))) ∧ zFm ms ty h (h.set a (.inl (0, (n, .inl (upd f i x))))) := by
  have hs := (T.2.2 a t _ ht he).1
  have hs' : z_sh (z_tt t) (.inl (0, (n, .inl (upd f i x)))) := by
    unfold z_sh at hs ⊢
    split at hs
    all_goals first
      | exact hs
      | contradiction
      | skip
    all_goals simp_all
  exact ⟨T.wr ht he hs' (z_rd_int hi) hv, zFm.wr ht he (z_rd_int hi) hm⟩
/-- a field is written: what stays -/
theorem zwf {ms : List zMod} {ty : List Nat} {h : zH} {a t c b : Nat} {fs : List Value} {v : Value} (T : zTY z_tt ty h) (ht : ty[a]? = some t) (he : h[a]? = some (.inr (c, fs))) (hb : b < fs.length) (hv : ∀ r ∈ (z_tt t).2.2.2, r.1 ≤ (b : Int) → (b : Int) ≤ r.2.1 → zG ty r.2.2 v) (hm : zIn ms t b) : zTY z_tt ty (h.set a (.inr (c, fs.set b v))) ∧ zFm ms ty h (h.set a (.inr (c, fs.set b v))) := by
  have hs := (T.2.2 a t _ ht he).1
  have hs' : z_sh (z_tt t) (.inr (c, fs.set b v)) := by
    unfold z_sh at hs ⊢
    split at hs
    all_goals first
      | exact hs
      | contradiction
      | skip
    all_goals simp_all
  exact ⟨T.wr ht he hs' (z_rd_obj hb) hv, zFm.wr ht he (z_rd_obj hb) hm⟩
/-- a counted loop -/
theorem zloop {sx : zX} {d j k : Nat} {Ψ : zO → zH → Nat → Nat → Prop} (lo : Int32 → zL) (N : Nat) (Q : Nat → zH → Prop) (hs : ∀ (i : Nat) (x : Int32) (h : zH), x.toInt = (i : Int) → i < N → Q i h → (∀ (x' : Int32) (h' : zH), x'.toInt = ((i + 1 : Nat) : Int) → Q (i + 1) h' → z_ok sx d j k (lo x') [] h' Ψ) → z_ok sx d j k (lo x) [] h Ψ) (he : ∀ (x : Int32) (h : zH), x.toInt = (N : Int) → Q N h → z_ok sx d j k (lo x) [] h Ψ) : ∀ (r i : Nat) (x : Int32) (h : zH), i + r = N → x.toInt = (i : Int) → Q i h → z_ok sx d j k (lo x) [] h Ψ
  | 0, i, x, h, hr, hx, q => he x h (by rw [hx]; omega) (by rw [← hr]; exact q)
  | r + 1, i, x, h, hr, hx, q => hs i x h hx (by omega) q (fun x' h' hx' q' => zloop lo N Q hs he r (i + 1) x' h' (by omega) hx' q')
theorem zinc {x : Int32} {i : Nat} (hx : x.toInt = (i : Int)) (hi : i < 100000) : (x + Int32.ofInt 1).toInt = ((i + 1 : Nat) : Int) := by
  rw [Int32.toInt_add, hx, show (Int32.ofInt 1).toInt = 1 from rfl]
  exact z_bm (by omega) (by omega)
theorem znat {x : Int32} {i : Nat} (hx : x.toInt = (i : Int)) : x.toNatClampNeg = i := by
  have : x.toNatClampNeg = x.toInt.toNat := rfl
  omega
theorem zset_ne {h : zH} {a b : Nat} {e : zE} (hn : a ≠ b) : (h.set a e)[b]? = h[b]? := List.getElem?_set_ne hn
theorem zset_eq {h : zH} {a : Nat} {e e' : zE} (he : h[a]? = some e') : (h.set a e)[a]? = some e := List.getElem?_set_self (List.getElem?_eq_some_iff.mp he).1
end
section
/-! copies: what a copying loop keeps -/
theorem zwf' {ms : List zMod} {ty : List Nat} {h : zH} {a t c b : Nat} {fs : List Value} {v : Value} {V : zA} (T : zTY z_tt ty h) (ht : ty[a]? = some t) (he : h[a]? = some (.inr (c, fs))) (hb : b < fs.length) (g : zG ty V v) (hz : zst (z_tt t).2.2.2 (b : Int) (b : Int) V = true) (hm : zcv ms t (b : Int) (b : Int) = true) : zTY z_tt ty (h.set a (.inr (c, fs.set b v))) ∧ zFm ms ty h (h.set a (.inr (c, fs.set b v))) :=
  zwf T ht he hb (zst_ok hz g (Int.le_refl _) (Int.le_refl _)) (zcv_ok hm (Int.le_refl _) (Int.le_refl _))
theorem zK0 {ty : List Nat} {n : Int} (h1 : -2147483648 ≤ n) (h2 : n ≤ 2147483647) : zG ty (0, n, n) (.int (Int32.ofInt n)) := ⟨_, rfl, by rw [z_of32 h1 h2]; exact Int.le_refl _, by rw [z_of32 h1 h2]; exact Int.le_refl _⟩
/-- i places have been copied, from p on in the one to q on in the other -/
noncomputable def zQc (ty : List Nat) (h0 : zH) (a : Nat) (gs : List Value) (w1 n1 : Nat) (f1 : Nat → Int32) (w2 n2 : Nat) (ms : List zMod) (p q i : Nat) (h : zH) : Prop := zTY z_tt ty h ∧ zFm ms ty h0 h ∧ h[a]? = some (.inr (9, gs)) ∧ h[w1]? = some (.inl (0, (n1, .inl f1))) ∧ ∃ g : Nat → Int32, h[w2]? = some (.inl (0, (n2, .inl g))) ∧ ∀ k, k < i → g (q + k) = f1 (p + k)
theorem zQc_step {ty : List Nat} {h0 : zH} {a : Nat} {gs : List Value} {w1 n1 : Nat} {f1 : Nat → Int32} {w2 n2 : Nat} {ms : List zMod} {p q i N t1 t2 : Nat} {h : zH} {g : Nat → Int32} (Q : zTY z_tt ty h ∧ zFm ms ty h0 h ∧ h[a]? = some (.inr (9, gs)) ∧ h[w1]? = some (.inl (0, (n1, .inl f1))) ∧ h[w2]? = some (.inl (0, (n2, .inl g))) ∧ ∀ k, k < i → g (q + k) = f1 (p + k)) (hi : i < N) (hN1 : p + N ≤ n1) (hN2 : q + N ≤ n2) (ha : ty[a]? = some 20) (ht1 : ty[w1]? = some t1) (ht2 : ty[w2]? = some t2) (hn : t1 ≠ t2) (hn2 : t2 ≠ 20) (hreg : ∀ r ∈ (z_tt t2).2.2.2, r.1 ≤ ((q + i : Nat) : Int) → ((q + i : Nat) : Int) ≤ r.2.1 → ∃ r' ∈ (z_tt t1).2.2.2, r'.1 ≤ ((p + i : Nat) : Int) ∧ ((p + i : Nat) : Int) ≤ r'.2.1 ∧ r'.2.2 = r.2.2) (hm : zcv ms t2 (q : Int) (((q + N : Nat) : Int) - 1) = true) : zQc ty h0 a gs w1 n1 f1 w2 n2 ms p q (i + 1) (h.set w2 (.inl (0, (n2, .inl (upd g (q + i) (f1 (p + i))))))) := by
  obtain ⟨T, F, he, h1, h2, hg⟩ := Q
  have hv : ∀ r ∈ (z_tt t2).2.2.2, r.1 ≤ ((q + i : Nat) : Int) → ((q + i : Nat) : Int) ≤ r.2.1 → zG ty r.2.2 (.int (f1 (p + i))) := fun r hr r1 r2 => by
    obtain ⟨r', m', a1, a2, a3⟩ := hreg r hr r1 r2
    rw [← a3]
    exact (T.2.2 w1 t1 _ ht1 h1).2 (p + i) _ (by rw [z_rd0, if_pos (by omega)]) r' m' a1 a2
  obtain ⟨T', F'⟩ := zwr (ms := ms) T ht2 h2 (i := q + i) (by omega) hv (zcv_ok hm (by omega) (by omega))
  have d1 : w2 ≠ w1 := fun e => hn (by rw [e, ht1] at ht2; exact Option.some.inj ht2)
  have d2 : w2 ≠ a := fun e => hn2 (by rw [e, ha] at ht2; exact (Option.some.inj ht2).symm)
  refine ⟨T', F.tr zExt.rf F', by rw [zset_ne d2]; exact he, by rw [zset_ne d1]; exact h1, _, zset_eq h2, fun k hk => ?_⟩
  unfold upd
  by_cases hk2 : k = i
  · subst hk2
    rw [if_pos rfl]
  · rw [if_neg (by omega)]
    exact hg k (by omega)
/-- regions of like places -/
theorem zreg_same {r1 r2 : List (Int × Int × zA)} {N : Nat} (hc : r2.all (fun r => r1.any (fun r' => decide (r' = r)) || decide ((N : Int) ≤ r.1)) = true) {i : Nat} (hi : i < N) : ∀ r ∈ r2, r.1 ≤ ((0 + i : Nat) : Int) → ((0 + i : Nat) : Int) ≤ r.2.1 → ∃ r' ∈ r1, r'.1 ≤ ((0 + i : Nat) : Int) ∧ ((0 + i : Nat) : Int) ≤ r'.2.1 ∧ r'.2.2 = r.2.2 := by
  intro r hr h1 h2
  have := List.all_eq_true.mp hc r hr
  rw [Bool.or_eq_true, decide_eq_true_eq] at this
  rcases this with h | h
  · obtain ⟨r', m, e⟩ := List.any_eq_true.mp h
    have e := of_decide_eq_true e
    subst e
    exact ⟨r', m, h1, h2, rfl⟩
  · omega
/-! THE LAW'S TEXT of the reference: what a line's code keeps to. A stack of one value a line -/
noncomputable def zPx (f : Nat → Int32) : Nat → Nat → Nat → Prop
  | 0, _, _ => True
  | n + 1, i, top => let s := (f (437 + 2 * i)).toInt
    i < 400 ∧ (if s ≤ 8 then top < 400 ∧ zPx f n (i + 1) (top + 1) else if s = 12 then 1 ≤ top ∧ zPx f n (i + 1) top else 2 ≤ top ∧ zPx f n (i + 1) (top - 1))
noncomputable def zLi (f : Nat → Int32) (l : Nat) : Prop := 0 ≤ (f (391 + 4 * l)).toInt ∧ zPx f ((f (392 + 4 * l)).toInt - (f (391 + 4 * l)).toInt).toNat (f (391 + 4 * l)).toInt.toNat 0
noncomputable def zLT (f : Nat → Int32) : Prop := (f 388).toInt ≤ 12 ∧ ∀ l : Nat, (l : Int) < (f 388).toInt → zLi f l
theorem zPx_congr {f g : Nat → Int32} (h : ∀ k, 388 ≤ k → k ≤ 1236 → g k = f k) : ∀ (n i top : Nat), zPx f n i top → zPx g n i top
  | 0, _, _, _ => trivial
  | n + 1, i, top, H => by
    obtain ⟨h1, h2⟩ := H
    refine ⟨h1, ?_⟩
    rw [h (437 + 2 * i) (by omega) (by omega)]
    split
    · next h3 =>
      rw [if_pos h3] at h2
      exact ⟨h2.1, zPx_congr h n _ _ h2.2⟩
    · next h3 =>
      rw [if_neg h3] at h2
      split
      · next h4 => rw [if_pos h4] at h2; exact ⟨h2.1, zPx_congr h n _ _ h2.2⟩
      · next h4 => rw [if_neg h4] at h2; exact ⟨h2.1, zPx_congr h n _ _ h2.2⟩
theorem zLT_congr {f g : Nat → Int32} (h : ∀ k, 388 ≤ k → k ≤ 1236 → g k = f k) (H : zLT f) : zLT g := by
  obtain ⟨h0, H⟩ := H
  rw [← h 388 (by omega) (by omega)] at h0
  refine ⟨h0, fun l hl => ?_⟩
  have hl' : (l : Int) < (f 388).toInt := by rw [← h 388 (by omega) (by omega)]; exact hl
  obtain ⟨h1, h2⟩ := H l hl'
  unfold zLi
  rw [h (391 + 4 * l) (by omega) (by omega), h (392 + 4 * l) (by omega) (by omega)]
  exact ⟨h1, zPx_congr h _ _ _ h2⟩
noncomputable def zlT3 (t : Nat) : Prop := t = 21 ∨ t = 22 ∨ t = 23
noncomputable def zEt (ty : List Nat) (h : zH) : Prop := ∀ (a t n : Nat) (f : Nat → Int32), ty[a]? = some t → zlT3 t → h[a]? = some (.inl (0, (n, .inl f))) → zLT f
/-- places that no automatic contract may name -/
noncomputable def zno (ms : List zMod) : Bool := ms.all (fun m => decide (100 ≤ m.1 → False) && (decide (m.1 < 21) || decide (23 < m.1) || decide (m.2.2 < 388) || decide (1236 < m.2.1)))
theorem zlT3_len {t : Nat} (h : zlT3 t) : (z_tt t).1 = 1 ∧ 1237 ≤ (z_tt t).2.2.1 := by
  rcases h with rfl | rfl | rfl
  · exact ⟨rfl, by decide⟩
  · exact ⟨rfl, by decide⟩
  · exact ⟨rfl, by decide⟩
theorem zEt_keep {ms : List zMod} {ty : List Nat} {h h' : zH} (T : zTY z_tt ty h) (T' : zTY z_tt ty h') (F : zFm ms ty h h') {a t n : Nat} {f : Nat → Int32} (ht : ty[a]? = some t) (hz : zlT3 t) (he' : h'[a]? = some (.inl (0, (n, .inl f)))) (hno : ∀ i : Nat, 388 ≤ i → i ≤ 1236 → ¬ zIn ms t i) (E : zEt ty h) : zLT f := by
  obtain ⟨e, he, hs, -⟩ := zcell T ht
  obtain ⟨k1, k2⟩ := zlT3_len hz
  obtain ⟨g, rfl⟩ := zsh1 hs k1
  obtain ⟨e2, he2, hs2, -⟩ := zcell T' ht
  obtain ⟨g2, rfl⟩ := zsh1 hs2 k1
  rw [he'] at he2
  cases he2
  refine zLT_congr (fun k hk1 hk2 => ?_) (E a t _ g ht hz he)
  have := F.2 a t _ _ ht he he' k (hno k hk1 hk2)
  rw [z_rd0, z_rd0, if_pos (by omega), if_pos (by omega)] at this
  exact Value.int.inj (Option.some.inj this)
theorem zno_ok {ms : List zMod} (h : zno ms = true) {t : Nat} (hz : zlT3 t) {i : Nat} (h1 : 388 ≤ i) (h2 : i ≤ 1236) : ¬ zIn ms t i := by
  rintro ⟨m, hm, m1, m2, m3⟩
  have := List.all_eq_true.mp h m hm
  simp only [Bool.and_eq_true, Bool.or_eq_true, decide_eq_true_eq] at this
  unfold zlT3 at hz
  omega
/-- one cell of each type of the model's -/
noncomputable def zE0 (ty : List Nat) : Prop := ∀ a b t : Nat, 20 ≤ t → t ≤ 32 → ty[a]? = some t → ty[b]? = some t → a = b
noncomputable def zE1 (ty : List Nat) (h : zH) : Prop := zE0 ty ∧ zEt ty h
theorem zE1_stable {ms : List zMod} (h : zno ms = true) : zStable z_tt zE1 ms := fun _ _ _ T T' _ F E => ⟨E.1, fun _ _ _ _ ht hz he => zEt_keep T T' F ht hz he (fun _ h1 h2 => zno_ok h hz h1 h2) E.2⟩
noncomputable def znt (ms : List zMod) (t : Nat) : Bool := ms.all (fun m => decide (m.1 ≠ t) || (decide (m.2.2 < 388) || decide (1236 < m.2.1)))
theorem znt_ok {ms : List zMod} {t : Nat} (h : znt ms t = true) {i : Nat} (h1 : 388 ≤ i) (h2 : i ≤ 1236) : ¬ zIn ms t i := by
  rintro ⟨m, hm, m1, m2, m3⟩
  have := List.all_eq_true.mp h m hm
  rw [Bool.or_eq_true, Bool.or_eq_true, decide_eq_true_eq, decide_eq_true_eq, decide_eq_true_eq] at this
  omega
end
section
/-! image, back, keepsAll, bringsBack by hand; printed with wip/gen/gen_copy.py -/
theorem zJ_180 : zJ3 180 z_m180 z_c180 z_h180 := ⟨rfl, rfl, rfl⟩
set_option maxRecDepth 100000 in
theorem zLp_180 {sx : zX} {d : Nat} {Ψ : zO → zH → Nat → Nat → Prop} {ty : List Nat} {h0 : zH} {a w1 w2 : Nat} {gs : List Value} {f1 : Nat → Int32} {ms : List zMod} (ha : ty[a]? = some 20) (ht1 : ty[w1]? = some 21) (ht2 : ty[w2]? = some 22) (hg1 : gs[1]? = some (.ref w1)) (hg2 : gs[2]? = some (.ref w2)) (hm : zcv ms 22 ((0 : Nat) : Int) (((0 + 1237 : Nat) : Int) - 1) = true) (kk : ∀ (x : Int32) (h : zH), zQc ty h0 a gs w1 2086 f1 w2 1237 ms 0 0 1237 h → z_ok sx d 180 18 [(1, .int x), (0, .ref a)] [] h Ψ) {h : zH} (q : zQc ty h0 a gs w1 2086 f1 w2 1237 ms 0 0 0 h) : z_ok sx d 180 5 [(1, .int (Int32.ofInt (0))), (0, .ref a)] [] h Ψ := by
  refine zloop (fun x => [(1, .int x), (0, .ref a)]) 1237 (zQc ty h0 a gs w1 2086 f1 w2 1237 ms 0 0) (fun i x h hx hi q kk => ?_) (fun x h hx q => ?_) 1237 0 _ h rfl rfl q
  · obtain ⟨T, F, he, h1, g, h2, hg⟩ := q
    refine zh zJ_180 (i := (1, 1, 0, 0)) rfl rfl (k' := 6) (lo' := [(1, .int x), (0, .ref a)]) (st' := [.int x]) (h' := h) rfl ?_
    refine zh zJ_180 (i := (0, 0, 0, 1237)) rfl rfl (k' := 7) (lo' := [(1, .int x), (0, .ref a)]) (st' := [.int (Int32.ofInt (1237)), .int x]) (h' := h) rfl ?_
    refine zh_icmp zJ_180 (a := 18) (b := 3) (z := 0) rfl (fun hc => ?_) (fun hc => ?_)
    · exact absurd (zcmp_ge.mp hc) (by rw [hx, z_of32 (by omega) (by omega)]; omega)
    refine zh zJ_180 (i := (2, 0, 0, 0)) rfl rfl (k' := 9) (lo' := [(1, .int x), (0, .ref a)]) (st' := [.ref a]) (h' := h) rfl ?_
    refine zh_get zJ_180 (a := a) (b := 2) (c := 9) (z := 0) rfl (k' := 10) rfl he hg2 ?_
    refine zh zJ_180 (i := (1, 1, 0, 0)) rfl rfl (k' := 11) (lo' := [(1, .int x), (0, .ref a)]) (st' := [.int x, .ref w2]) (h' := h) rfl ?_
    refine zh zJ_180 (i := (2, 0, 0, 0)) rfl rfl (k' := 12) (lo' := [(1, .int x), (0, .ref a)]) (st' := [.ref a, .int x, .ref w2]) (h' := h) rfl ?_
    refine zh_get zJ_180 (a := a) (b := 1) (c := 9) (z := 0) rfl (k' := 13) rfl he hg1 ?_
    refine zh zJ_180 (i := (1, 1, 0, 0)) rfl rfl (k' := 14) (lo' := [(1, .int x), (0, .ref a)]) (st' := [.int x, .ref w1, .int x, .ref w2]) (h' := h) rfl ?_
    refine zh_iald zJ_180 (z := 0) rfl (k' := 15) rfl h1 (by omega) (by omega) ?_
    refine zh_iast zJ_180 (z := 0) rfl (k' := 16) rfl h2 (by omega) (by omega) ?_
    refine zh zJ_180 (i := (7, 1, 0, 1)) rfl rfl (k' := 17) (lo' := [(1, .int (x + Int32.ofInt (1))), (0, .ref a)]) (st' := []) (h' := (h.set w2 (.inl (0, (1237, .inl (upd g x.toNatClampNeg (f1 x.toNatClampNeg))))))) rfl ?_
    refine zh zJ_180 (i := (30, 5, 0, 0)) rfl rfl (k' := 5) (lo' := [(1, .int (x + Int32.ofInt (1))), (0, .ref a)]) (st' := []) (h' := (h.set w2 (.inl (0, (1237, .inl (upd g x.toNatClampNeg (f1 x.toNatClampNeg))))))) rfl ?_
    refine kk _ _ (zinc hx (by omega)) ?_
    rw [znat hx]
    have := zQc_step (N := 1237) (t1 := 21) (t2 := 22) ⟨T, F, he, h1, h2, hg⟩ hi (by omega) (by omega) ha ht1 ht2 (by decide) (by decide) (zreg_same (N := 1237) (by decide +kernel) hi) hm
    rw [Nat.zero_add] at this
    exact this
  · refine zh zJ_180 (i := (1, 1, 0, 0)) rfl rfl (k' := 6) (lo' := [(1, .int x), (0, .ref a)]) (st' := [.int x]) (h' := h) rfl ?_
    refine zh zJ_180 (i := (0, 0, 0, 1237)) rfl rfl (k' := 7) (lo' := [(1, .int x), (0, .ref a)]) (st' := [.int (Int32.ofInt (1237)), .int x]) (h' := h) rfl ?_
    refine zh_icmp zJ_180 (a := 18) (b := 3) (z := 0) rfl (fun hc => ?_) (fun hc => ?_)
    · exact kk x h q
    · exact absurd (zcmp_ge.mpr (by rw [hx, z_of32 (by omega) (by omega)]; omega)) hc
theorem zJ_181 : zJ3 181 z_m181 z_c181 z_h181 := ⟨rfl, rfl, rfl⟩
set_option maxRecDepth 100000 in
theorem zLp_181 {sx : zX} {d : Nat} {Ψ : zO → zH → Nat → Nat → Prop} {ty : List Nat} {h0 : zH} {a w1 w2 : Nat} {gs : List Value} {f1 : Nat → Int32} {ms : List zMod} (ha : ty[a]? = some 20) (ht1 : ty[w1]? = some 22) (ht2 : ty[w2]? = some 21) (hg2 : gs[2]? = some (.ref w1)) (hg1 : gs[1]? = some (.ref w2)) (hm : zcv ms 21 ((0 : Nat) : Int) (((0 + 1237 : Nat) : Int) - 1) = true) (kk : ∀ (x : Int32) (h : zH), zQc ty h0 a gs w1 1237 f1 w2 2086 ms 0 0 1237 h → z_ok sx d 181 23 [(1, .int x), (0, .ref a)] [] h Ψ) {h : zH} (q : zQc ty h0 a gs w1 1237 f1 w2 2086 ms 0 0 0 h) : z_ok sx d 181 10 [(1, .int (Int32.ofInt (0))), (0, .ref a)] [] h Ψ := by
  refine zloop (fun x => [(1, .int x), (0, .ref a)]) 1237 (zQc ty h0 a gs w1 1237 f1 w2 2086 ms 0 0) (fun i x h hx hi q kk => ?_) (fun x h hx q => ?_) 1237 0 _ h rfl rfl q
  · obtain ⟨T, F, he, h1, g, h2, hg⟩ := q
    refine zh zJ_181 (i := (1, 1, 0, 0)) rfl rfl (k' := 11) (lo' := [(1, .int x), (0, .ref a)]) (st' := [.int x]) (h' := h) rfl ?_
    refine zh zJ_181 (i := (0, 0, 0, 1237)) rfl rfl (k' := 12) (lo' := [(1, .int x), (0, .ref a)]) (st' := [.int (Int32.ofInt (1237)), .int x]) (h' := h) rfl ?_
    refine zh_icmp zJ_181 (a := 23) (b := 3) (z := 0) rfl (fun hc => ?_) (fun hc => ?_)
    · exact absurd (zcmp_ge.mp hc) (by rw [hx, z_of32 (by omega) (by omega)]; omega)
    refine zh zJ_181 (i := (2, 0, 0, 0)) rfl rfl (k' := 14) (lo' := [(1, .int x), (0, .ref a)]) (st' := [.ref a]) (h' := h) rfl ?_
    refine zh_get zJ_181 (a := a) (b := 1) (c := 9) (z := 0) rfl (k' := 15) rfl he hg1 ?_
    refine zh zJ_181 (i := (1, 1, 0, 0)) rfl rfl (k' := 16) (lo' := [(1, .int x), (0, .ref a)]) (st' := [.int x, .ref w2]) (h' := h) rfl ?_
    refine zh zJ_181 (i := (2, 0, 0, 0)) rfl rfl (k' := 17) (lo' := [(1, .int x), (0, .ref a)]) (st' := [.ref a, .int x, .ref w2]) (h' := h) rfl ?_
    refine zh_get zJ_181 (a := a) (b := 2) (c := 9) (z := 0) rfl (k' := 18) rfl he hg2 ?_
    refine zh zJ_181 (i := (1, 1, 0, 0)) rfl rfl (k' := 19) (lo' := [(1, .int x), (0, .ref a)]) (st' := [.int x, .ref w1, .int x, .ref w2]) (h' := h) rfl ?_
    refine zh_iald zJ_181 (z := 0) rfl (k' := 20) rfl h1 (by omega) (by omega) ?_
    refine zh_iast zJ_181 (z := 0) rfl (k' := 21) rfl h2 (by omega) (by omega) ?_
    refine zh zJ_181 (i := (7, 1, 0, 1)) rfl rfl (k' := 22) (lo' := [(1, .int (x + Int32.ofInt (1))), (0, .ref a)]) (st' := []) (h' := (h.set w2 (.inl (0, (2086, .inl (upd g x.toNatClampNeg (f1 x.toNatClampNeg))))))) rfl ?_
    refine zh zJ_181 (i := (30, 10, 0, 0)) rfl rfl (k' := 10) (lo' := [(1, .int (x + Int32.ofInt (1))), (0, .ref a)]) (st' := []) (h' := (h.set w2 (.inl (0, (2086, .inl (upd g x.toNatClampNeg (f1 x.toNatClampNeg))))))) rfl ?_
    refine kk _ _ (zinc hx (by omega)) ?_
    rw [znat hx]
    have := zQc_step (N := 1237) (t1 := 22) (t2 := 21) ⟨T, F, he, h1, h2, hg⟩ hi (by omega) (by omega) ha ht1 ht2 (by decide) (by decide) (zreg_same (N := 1237) (by decide +kernel) hi) hm
    rw [Nat.zero_add] at this
    exact this
  · refine zh zJ_181 (i := (1, 1, 0, 0)) rfl rfl (k' := 11) (lo' := [(1, .int x), (0, .ref a)]) (st' := [.int x]) (h' := h) rfl ?_
    refine zh zJ_181 (i := (0, 0, 0, 1237)) rfl rfl (k' := 12) (lo' := [(1, .int x), (0, .ref a)]) (st' := [.int (Int32.ofInt (1237)), .int x]) (h' := h) rfl ?_
    refine zh_icmp zJ_181 (a := 23) (b := 3) (z := 0) rfl (fun hc => ?_) (fun hc => ?_)
    · exact kk x h q
    · exact absurd (zcmp_ge.mpr (by rw [hx, z_of32 (by omega) (by omega)]; omega)) hc
theorem zJ_266 : zJ3 266 z_m266 z_c266 z_h266 := ⟨rfl, rfl, rfl⟩
set_option maxRecDepth 100000 in
theorem zLp_266 {sx : zX} {d : Nat} {Ψ : zO → zH → Nat → Nat → Prop} {ty : List Nat} {h0 : zH} {a w1 w2 : Nat} {gs : List Value} {f1 : Nat → Int32} {ms : List zMod} (ha : ty[a]? = some 20) (ht1 : ty[w1]? = some 21) (ht2 : ty[w2]? = some 24) (hg1 : gs[1]? = some (.ref w1)) (hg4 : gs[4]? = some (.ref w2)) (hm : zcv ms 24 ((0 : Nat) : Int) (((0 + 388 : Nat) : Int) - 1) = true) (kk : ∀ (x : Int32) (h : zH), zQc ty h0 a gs w1 2086 f1 w2 388 ms 0 0 388 h → z_ok sx d 266 15 [(1, .int x), (0, .ref a)] [] h Ψ) {h : zH} (q : zQc ty h0 a gs w1 2086 f1 w2 388 ms 0 0 0 h) : z_ok sx d 266 2 [(1, .int (Int32.ofInt (0))), (0, .ref a)] [] h Ψ := by
  refine zloop (fun x => [(1, .int x), (0, .ref a)]) 388 (zQc ty h0 a gs w1 2086 f1 w2 388 ms 0 0) (fun i x h hx hi q kk => ?_) (fun x h hx q => ?_) 388 0 _ h rfl rfl q
  · obtain ⟨T, F, he, h1, g, h2, hg⟩ := q
    refine zh zJ_266 (i := (1, 1, 0, 0)) rfl rfl (k' := 3) (lo' := [(1, .int x), (0, .ref a)]) (st' := [.int x]) (h' := h) rfl ?_
    refine zh zJ_266 (i := (0, 0, 0, 388)) rfl rfl (k' := 4) (lo' := [(1, .int x), (0, .ref a)]) (st' := [.int (Int32.ofInt (388)), .int x]) (h' := h) rfl ?_
    refine zh_icmp zJ_266 (a := 15) (b := 3) (z := 0) rfl (fun hc => ?_) (fun hc => ?_)
    · exact absurd (zcmp_ge.mp hc) (by rw [hx, z_of32 (by omega) (by omega)]; omega)
    refine zh zJ_266 (i := (2, 0, 0, 0)) rfl rfl (k' := 6) (lo' := [(1, .int x), (0, .ref a)]) (st' := [.ref a]) (h' := h) rfl ?_
    refine zh_get zJ_266 (a := a) (b := 4) (c := 9) (z := 0) rfl (k' := 7) rfl he hg4 ?_
    refine zh zJ_266 (i := (1, 1, 0, 0)) rfl rfl (k' := 8) (lo' := [(1, .int x), (0, .ref a)]) (st' := [.int x, .ref w2]) (h' := h) rfl ?_
    refine zh zJ_266 (i := (2, 0, 0, 0)) rfl rfl (k' := 9) (lo' := [(1, .int x), (0, .ref a)]) (st' := [.ref a, .int x, .ref w2]) (h' := h) rfl ?_
    refine zh_get zJ_266 (a := a) (b := 1) (c := 9) (z := 0) rfl (k' := 10) rfl he hg1 ?_
    refine zh zJ_266 (i := (1, 1, 0, 0)) rfl rfl (k' := 11) (lo' := [(1, .int x), (0, .ref a)]) (st' := [.int x, .ref w1, .int x, .ref w2]) (h' := h) rfl ?_
    refine zh_iald zJ_266 (z := 0) rfl (k' := 12) rfl h1 (by omega) (by omega) ?_
    refine zh_iast zJ_266 (z := 0) rfl (k' := 13) rfl h2 (by omega) (by omega) ?_
    refine zh zJ_266 (i := (7, 1, 0, 1)) rfl rfl (k' := 14) (lo' := [(1, .int (x + Int32.ofInt (1))), (0, .ref a)]) (st' := []) (h' := (h.set w2 (.inl (0, (388, .inl (upd g x.toNatClampNeg (f1 x.toNatClampNeg))))))) rfl ?_
    refine zh zJ_266 (i := (30, 2, 0, 0)) rfl rfl (k' := 2) (lo' := [(1, .int (x + Int32.ofInt (1))), (0, .ref a)]) (st' := []) (h' := (h.set w2 (.inl (0, (388, .inl (upd g x.toNatClampNeg (f1 x.toNatClampNeg))))))) rfl ?_
    refine kk _ _ (zinc hx (by omega)) ?_
    rw [znat hx]
    have := zQc_step (N := 388) (t1 := 21) (t2 := 24) ⟨T, F, he, h1, h2, hg⟩ hi (by omega) (by omega) ha ht1 ht2 (by decide) (by decide) (zreg_same (N := 388) (by decide +kernel) hi) hm
    rw [Nat.zero_add] at this
    exact this
  · refine zh zJ_266 (i := (1, 1, 0, 0)) rfl rfl (k' := 3) (lo' := [(1, .int x), (0, .ref a)]) (st' := [.int x]) (h' := h) rfl ?_
    refine zh zJ_266 (i := (0, 0, 0, 388)) rfl rfl (k' := 4) (lo' := [(1, .int x), (0, .ref a)]) (st' := [.int (Int32.ofInt (388)), .int x]) (h' := h) rfl ?_
    refine zh_icmp zJ_266 (a := 15) (b := 3) (z := 0) rfl (fun hc => ?_) (fun hc => ?_)
    · exact kk x h q
    · exact absurd (zcmp_ge.mpr (by rw [hx, z_of32 (by omega) (by omega)]; omega)) hc
theorem zJ_267 : zJ3 267 z_m267 z_c267 z_h267 := ⟨rfl, rfl, rfl⟩
set_option maxRecDepth 100000 in
theorem zLp_267 {sx : zX} {d : Nat} {Ψ : zO → zH → Nat → Nat → Prop} {ty : List Nat} {h0 : zH} {a w1 w2 : Nat} {gs : List Value} {f1 : Nat → Int32} {ms : List zMod} (ha : ty[a]? = some 20) (ht1 : ty[w1]? = some 24) (ht2 : ty[w2]? = some 21) (hg4 : gs[4]? = some (.ref w1)) (hg1 : gs[1]? = some (.ref w2)) (hm : zcv ms 21 ((0 : Nat) : Int) (((0 + 388 : Nat) : Int) - 1) = true) (kk : ∀ (x : Int32) (h : zH), zQc ty h0 a gs w1 388 f1 w2 2086 ms 0 0 388 h → z_ok sx d 267 15 [(1, .int x), (0, .ref a)] [] h Ψ) {h : zH} (q : zQc ty h0 a gs w1 388 f1 w2 2086 ms 0 0 0 h) : z_ok sx d 267 2 [(1, .int (Int32.ofInt (0))), (0, .ref a)] [] h Ψ := by
  refine zloop (fun x => [(1, .int x), (0, .ref a)]) 388 (zQc ty h0 a gs w1 388 f1 w2 2086 ms 0 0) (fun i x h hx hi q kk => ?_) (fun x h hx q => ?_) 388 0 _ h rfl rfl q
  · obtain ⟨T, F, he, h1, g, h2, hg⟩ := q
    refine zh zJ_267 (i := (1, 1, 0, 0)) rfl rfl (k' := 3) (lo' := [(1, .int x), (0, .ref a)]) (st' := [.int x]) (h' := h) rfl ?_
    refine zh zJ_267 (i := (0, 0, 0, 388)) rfl rfl (k' := 4) (lo' := [(1, .int x), (0, .ref a)]) (st' := [.int (Int32.ofInt (388)), .int x]) (h' := h) rfl ?_
    refine zh_icmp zJ_267 (a := 15) (b := 3) (z := 0) rfl (fun hc => ?_) (fun hc => ?_)
    · exact absurd (zcmp_ge.mp hc) (by rw [hx, z_of32 (by omega) (by omega)]; omega)
    refine zh zJ_267 (i := (2, 0, 0, 0)) rfl rfl (k' := 6) (lo' := [(1, .int x), (0, .ref a)]) (st' := [.ref a]) (h' := h) rfl ?_
    refine zh_get zJ_267 (a := a) (b := 1) (c := 9) (z := 0) rfl (k' := 7) rfl he hg1 ?_
    refine zh zJ_267 (i := (1, 1, 0, 0)) rfl rfl (k' := 8) (lo' := [(1, .int x), (0, .ref a)]) (st' := [.int x, .ref w2]) (h' := h) rfl ?_
    refine zh zJ_267 (i := (2, 0, 0, 0)) rfl rfl (k' := 9) (lo' := [(1, .int x), (0, .ref a)]) (st' := [.ref a, .int x, .ref w2]) (h' := h) rfl ?_
    refine zh_get zJ_267 (a := a) (b := 4) (c := 9) (z := 0) rfl (k' := 10) rfl he hg4 ?_
    refine zh zJ_267 (i := (1, 1, 0, 0)) rfl rfl (k' := 11) (lo' := [(1, .int x), (0, .ref a)]) (st' := [.int x, .ref w1, .int x, .ref w2]) (h' := h) rfl ?_
    refine zh_iald zJ_267 (z := 0) rfl (k' := 12) rfl h1 (by omega) (by omega) ?_
    refine zh_iast zJ_267 (z := 0) rfl (k' := 13) rfl h2 (by omega) (by omega) ?_
    refine zh zJ_267 (i := (7, 1, 0, 1)) rfl rfl (k' := 14) (lo' := [(1, .int (x + Int32.ofInt (1))), (0, .ref a)]) (st' := []) (h' := (h.set w2 (.inl (0, (2086, .inl (upd g x.toNatClampNeg (f1 x.toNatClampNeg))))))) rfl ?_
    refine zh zJ_267 (i := (30, 2, 0, 0)) rfl rfl (k' := 2) (lo' := [(1, .int (x + Int32.ofInt (1))), (0, .ref a)]) (st' := []) (h' := (h.set w2 (.inl (0, (2086, .inl (upd g x.toNatClampNeg (f1 x.toNatClampNeg))))))) rfl ?_
    refine kk _ _ (zinc hx (by omega)) ?_
    rw [znat hx]
    have := zQc_step (N := 388) (t1 := 24) (t2 := 21) ⟨T, F, he, h1, h2, hg⟩ hi (by omega) (by omega) ha ht1 ht2 (by decide) (by decide) (zreg_same (N := 388) (by decide +kernel) hi) hm
    rw [Nat.zero_add] at this
    exact this
  · refine zh zJ_267 (i := (1, 1, 0, 0)) rfl rfl (k' := 3) (lo' := [(1, .int x), (0, .ref a)]) (st' := [.int x]) (h' := h) rfl ?_
    refine zh zJ_267 (i := (0, 0, 0, 388)) rfl rfl (k' := 4) (lo' := [(1, .int x), (0, .ref a)]) (st' := [.int (Int32.ofInt (388)), .int x]) (h' := h) rfl ?_
    refine zh_icmp zJ_267 (a := 15) (b := 3) (z := 0) rfl (fun hc => ?_) (fun hc => ?_)
    · exact kk x h q
    · exact absurd (zcmp_ge.mpr (by rw [hx, z_of32 (by omega) (by omega)]; omega)) hc
end
section
/-! the contracts of image, back, keepsAll, bringsBack; printed with wip/gen/gen_copy2.py -/
set_option maxRecDepth 100000 in
theorem zV_28 : zVd z_tt zE1 zC28 := by
  intro sx d ty h as hd T E hA
  match as, hA with
  | [va], hA =>
  obtain ⟨a, t, rfl, ha, t1, t2⟩ := hA.1
  have et : t = 20 := by omega
  subst et
  show z_ok sx d 180 0 [(0, .ref a)] [] h _
  obtain ⟨fs, he, hl⟩ := zcell0 (c := 9) (n := 23) T ha rfl rfl rfl
  refine zh zJ_180 (i := (2, 0, 0, 0)) rfl rfl (k' := 1) (lo' := [(0, .ref a)]) (st' := [.ref a]) (h' := h) rfl ?_
  refine zh zJ_180 (i := (0, 0, 0, 0)) rfl rfl (k' := 2) (lo' := [(0, .ref a)]) (st' := [.int (Int32.ofInt (0)), .ref a]) (h' := h) rfl ?_
  obtain ⟨T1, F1⟩ := zwf' (ms := zcM zC28) (b := 0) T ha he (by omega) (zK0 (n := 0) (by decide) (by decide)) (by decide +kernel) (by decide +kernel)
  have he1 := zset_eq (e := .inr (9, fs.set 0 (.int (Int32.ofInt (0))))) he
  have hl1 : (fs.set 0 (.int (Int32.ofInt (0)))).length = 23 := by rw [List.length_set]; exact hl
  refine zh_put zJ_180 (b := 0) (c := 9) (z := 0) rfl (k' := 3) rfl he (by omega) rfl ?_
  generalize fs.set 0 (.int (Int32.ofInt (0))) = gs at T1 F1 he1 hl1 ⊢
  generalize h.set a (.inr (9, gs)) = h1 at T1 F1 he1 ⊢
  refine zh zJ_180 (i := (0, 0, 0, 0)) rfl rfl (k' := 4) (lo' := [(0, .ref a)]) (st' := [.int (Int32.ofInt (0))]) (h' := h1) rfl ?_
  refine zh zJ_180 (i := (4, 1, 0, 0)) rfl rfl (k' := 5) (lo' := [(1, .int (Int32.ofInt (0))), (0, .ref a)]) (st' := []) (h' := h1) rfl ?_
  obtain ⟨w1, g1, hw1⟩ := zfd2 (b := 1) (u := 21) T1 ha he1 (by omega) (by decide +kernel)
  obtain ⟨w2, g2, hw2⟩ := zfd2 (b := 2) (u := 22) T1 ha he1 (by omega) (by decide +kernel)
  obtain ⟨f1, hf1⟩ := zcell1 (n := 2086) T1 hw1 rfl rfl
  obtain ⟨g, hg⟩ := zcell1 (n := 1237) T1 hw2 rfl rfl
  refine zLp_180 ha hw1 hw2 g1 g2 (ms := zcM zC28) (by decide +kernel) (fun x h2 q => ?_) ⟨T1, F1, he1, hf1, g, hg, fun k hk => absurd hk (by omega)⟩
  obtain ⟨T2, F2, he2, hs2, g9, hd2, hcp⟩ := q
  refine zh zJ_180 (i := (2, 0, 0, 0)) rfl rfl (k' := 19) (lo' := [(1, .int x), (0, .ref a)]) (st' := [.ref a]) (h' := h2) rfl ?_
  refine zh zJ_180 (i := (0, 0, 0, 1)) rfl rfl (k' := 20) (lo' := [(1, .int x), (0, .ref a)]) (st' := [.int (Int32.ofInt (1)), .ref a]) (h' := h2) rfl ?_
  obtain ⟨T3, F3⟩ := zwf' (ms := zcM zC28) (b := 6) T2 ha he2 (by omega) (zK0 (n := 1) (by decide) (by decide)) (by decide +kernel) (by decide +kernel)
  have he3 := zset_eq (e := .inr (9, gs.set 6 (.int (Int32.ofInt (1))))) he2
  have hl3 : (gs.set 6 (.int (Int32.ofInt (1)))).length = 23 := by rw [List.length_set]; exact hl1
  refine zh_put zJ_180 (b := 6) (c := 9) (z := 1) rfl (k' := 21) rfl he2 (by omega) rfl ?_
  have hd3 := (zset_ne (h := h2) (e := .inr (9, gs.set 6 (.int (Int32.ofInt (1))))) (show a ≠ w2 from fun e => by rw [e, hw2] at ha; cases ha)).trans hd2
  have hs3 := (zset_ne (h := h2) (e := .inr (9, gs.set 6 (.int (Int32.ofInt (1))))) (show a ≠ w1 from fun e => by rw [e, hw1] at ha; cases ha)).trans hs2
  generalize gs.set 6 (.int (Int32.ofInt (1))) = gs3 at T3 F3 he3 hl3 hd3 hs3 ⊢
  generalize h2.set a (.inr (9, gs3)) = h3 at T3 F3 he3 hd3 hs3 ⊢
  refine zh_vret zJ_180 (a := 0) (b := 0) (z := 0) rfl ?_
  have F := F2.tr zExt.rf F3
  have L1 : zLT f1 := zEt_keep T T3 F hw1 (Or.inl rfl) hs3 (fun i h1 h2 => znt_ok (by decide +kernel) h1 h2) E.2
  refine ⟨ty, zExt.rf, T3, ⟨E.1, fun b t n f hb hz hbf => ?_⟩, F, trivial, Nat.le_refl _, Nat.le_refl _⟩
  rcases hz with rfl | rfl | rfl
  · exact zEt_keep T T3 F hb (Or.inl rfl) hbf (fun i h1 h2 => znt_ok (by decide +kernel) h1 h2) E.2
  · have e := E.1 b w2 22 (by omega) (by omega) hb hw2
    subst e
    rw [hd3] at hbf
    cases hbf
    exact zLT_congr (fun k k1 k2 => by have := hcp k (by omega); rw [Nat.zero_add] at this; exact this) L1
  · exact zEt_keep T T3 F hb (Or.inr (Or.inr rfl)) hbf (fun i h1 h2 => znt_ok (by decide +kernel) h1 h2) E.2
set_option maxRecDepth 100000 in
theorem zV_32 : zVd z_tt zE1 zC32 := by
  intro sx d ty h as hd T E hA
  match as, hA with
  | [va], hA =>
  obtain ⟨a, t, rfl, ha, t1, t2⟩ := hA.1
  have et : t = 20 := by omega
  subst et
  show z_ok sx d 266 0 [(0, .ref a)] [] h _
  obtain ⟨fs, he, hl⟩ := zcell0 (c := 9) (n := 23) T ha rfl rfl rfl
  refine zh zJ_266 (i := (0, 0, 0, 0)) rfl rfl (k' := 1) (lo' := [(0, .ref a)]) (st' := [.int (Int32.ofInt (0))]) (h' := h) rfl ?_
  refine zh zJ_266 (i := (4, 1, 0, 0)) rfl rfl (k' := 2) (lo' := [(1, .int (Int32.ofInt (0))), (0, .ref a)]) (st' := []) (h' := h) rfl ?_
  obtain ⟨w1, g1, hw1⟩ := zfd2 (b := 1) (u := 21) T ha he (by omega) (by decide +kernel)
  obtain ⟨w2, g2, hw2⟩ := zfd2 (b := 4) (u := 24) T ha he (by omega) (by decide +kernel)
  obtain ⟨f1, hf1⟩ := zcell1 (n := 2086) T hw1 rfl rfl
  obtain ⟨g, hg⟩ := zcell1 (n := 388) T hw2 rfl rfl
  refine zLp_266 ha hw1 hw2 g1 g2 (ms := zcM zC32) (by decide +kernel) (fun x h2 q => ?_) ⟨T, zFm.rf, he, hf1, g, hg, fun k hk => absurd hk (by omega)⟩
  obtain ⟨T2, F2, he2, hs2, g9, hd2, hcp⟩ := q
  refine zh_vret zJ_266 (a := 0) (b := 0) (z := 0) rfl ?_
  exact ⟨ty, zExt.rf, T2, zE1_stable (by decide +kernel) ty h h2 T T2 (T.len T2) F2 E, F2, trivial, Nat.le_refl _, Nat.le_refl _⟩
set_option maxRecDepth 100000 in
theorem zV_33 : zVd z_tt zE1 zC33 := by
  intro sx d ty h as hd T E hA
  match as, hA with
  | [va], hA =>
  obtain ⟨a, t, rfl, ha, t1, t2⟩ := hA.1
  have et : t = 20 := by omega
  subst et
  show z_ok sx d 267 0 [(0, .ref a)] [] h _
  obtain ⟨fs, he, hl⟩ := zcell0 (c := 9) (n := 23) T ha rfl rfl rfl
  refine zh zJ_267 (i := (0, 0, 0, 0)) rfl rfl (k' := 1) (lo' := [(0, .ref a)]) (st' := [.int (Int32.ofInt (0))]) (h' := h) rfl ?_
  refine zh zJ_267 (i := (4, 1, 0, 0)) rfl rfl (k' := 2) (lo' := [(1, .int (Int32.ofInt (0))), (0, .ref a)]) (st' := []) (h' := h) rfl ?_
  obtain ⟨w1, g1, hw1⟩ := zfd2 (b := 4) (u := 24) T ha he (by omega) (by decide +kernel)
  obtain ⟨w2, g2, hw2⟩ := zfd2 (b := 1) (u := 21) T ha he (by omega) (by decide +kernel)
  obtain ⟨f1, hf1⟩ := zcell1 (n := 388) T hw1 rfl rfl
  obtain ⟨g, hg⟩ := zcell1 (n := 2086) T hw2 rfl rfl
  refine zLp_267 ha hw1 hw2 g1 g2 (ms := zcM zC33) (by decide +kernel) (fun x h2 q => ?_) ⟨T, zFm.rf, he, hf1, g, hg, fun k hk => absurd hk (by omega)⟩
  obtain ⟨T2, F2, he2, hs2, g9, hd2, hcp⟩ := q
  refine zh_vret zJ_267 (a := 0) (b := 0) (z := 0) rfl ?_
  exact ⟨ty, zExt.rf, T2, zE1_stable (by decide +kernel) ty h h2 T T2 (T.len T2) F2 E, F2, trivial, Nat.le_refl _, Nat.le_refl _⟩
set_option maxRecDepth 100000 in
theorem zV_29 : zVd z_tt zE1 zC29 := by
  intro sx d ty h as hd T E hA
  match as, hA with
  | [va], hA =>
  obtain ⟨a, t, rfl, ha, t1, t2⟩ := hA.1
  have et : t = 20 := by omega
  subst et
  show z_ok sx d 181 0 [(0, .ref a)] [] h _
  obtain ⟨fs, he, hl⟩ := zcell0 (c := 9) (n := 23) T ha rfl rfl rfl
  refine zh zJ_181 (i := (2, 0, 0, 0)) rfl rfl (k' := 1) (lo' := [(0, .ref a)]) (st' := [.ref a]) (h' := h) rfl ?_
  refine zh zJ_181 (i := (0, 0, 0, 0)) rfl rfl (k' := 2) (lo' := [(0, .ref a)]) (st' := [.int (Int32.ofInt (0)), .ref a]) (h' := h) rfl ?_
  have zF0 := (zwf' (ms := [(20, 0, 0)]) (b := 0) T ha he (by omega) (zK0 (n := 0) (by decide) (by decide)) (by decide +kernel) (by decide +kernel)).2
  obtain ⟨T1, F1⟩ := zwf' (ms := zcM zC29) (b := 0) T ha he (by omega) (zK0 (n := 0) (by decide) (by decide)) (by decide +kernel) (by decide +kernel)
  have he1 := zset_eq (e := .inr (9, fs.set 0 (.int (Int32.ofInt (0))))) he
  have hl1 : (fs.set 0 (.int (Int32.ofInt (0)))).length = 23 := by rw [List.length_set]; exact hl
  refine zh_put zJ_181 (b := 0) (c := 9) (z := 0) rfl (k' := 3) rfl he (by omega) rfl ?_
  generalize fs.set 0 (.int (Int32.ofInt (0))) = gs at T1 F1 zF0 he1 hl1 ⊢
  generalize h.set a (.inr (9, gs)) = h1 at T1 F1 zF0 he1 ⊢
  obtain ⟨b6, g6, b61, b62⟩ := zfd0 (b := 6) (lo := 0) (hi := 1) T1 ha he1 (by omega) (by decide +kernel)
  have F10 : zFm [(20, 0, 0)] ty h h1 := zF0
  have E1 : zE1 ty h1 := zE1_stable (by decide +kernel) ty h h1 T T1 (T.len T1) F10 E
  have hret : ∀ (v : Int32) (h' : zH), zTY z_tt ty h' → zE1 ty h' → zFm (zcM zC29) ty h h' → 0 ≤ v.toInt → v.toInt ≤ 1 → zPo z_tt zE1 zC29 ty h (.inl (some (.int v))) h' 0 0 := fun v h' T' E' F' v1 v2 => ⟨ty, zExt.rf, T', E', F', ⟨v, rfl, v1, v2⟩, Nat.le_refl _, Nat.le_refl _⟩
  refine zh zJ_181 (i := (2, 0, 0, 0)) rfl rfl (k' := 4) (lo' := [(0, .ref a)]) (st' := [.ref a]) (h' := h1) rfl ?_
  refine zh_get zJ_181 (a := a) (b := 6) (c := 9) (z := 0) rfl (k' := 5) rfl he1 g6 ?_
  refine zh_if zJ_181 (a := 8) (b := 1) (z := 0) rfl (fun hc => ?_) (fun hc => ?_)
  · refine zh zJ_181 (i := (0, 0, 0, 0)) rfl rfl (k' := 9) (lo' := [(0, .ref a)]) (st' := [.int (Int32.ofInt (0))]) (h' := h1) rfl ?_
    refine zh zJ_181 (i := (4, 1, 0, 0)) rfl rfl (k' := 10) (lo' := [(1, .int (Int32.ofInt (0))), (0, .ref a)]) (st' := []) (h' := h1) rfl ?_
    obtain ⟨w1, g1, hw1⟩ := zfd2 (b := 2) (u := 22) T1 ha he1 (by omega) (by decide +kernel)
    obtain ⟨w2, g2, hw2⟩ := zfd2 (b := 1) (u := 21) T1 ha he1 (by omega) (by decide +kernel)
    obtain ⟨f1, hf1⟩ := zcell1 (n := 1237) T1 hw1 rfl rfl
    obtain ⟨g, hg⟩ := zcell1 (n := 2086) T1 hw2 rfl rfl
    refine zLp_181 ha hw1 hw2 g1 g2 (ms := zcM zC29) (by decide +kernel) (fun x h2 q => ?_) ⟨T1, F1, he1, hf1, g, hg, fun k hk => absurd hk (by omega)⟩
    obtain ⟨T2, F2, he2, hs2, g9, hd2, hcp⟩ := q
    refine zh zJ_181 (i := (2, 0, 0, 0)) rfl rfl (k' := 24) (lo' := [(1, .int x), (0, .ref a)]) (st' := [.ref a]) (h' := h2) rfl ?_
    refine zh zJ_181 (i := (0, 0, 0, 0)) rfl rfl (k' := 25) (lo' := [(1, .int x), (0, .ref a)]) (st' := [.int (Int32.ofInt (0)), .ref a]) (h' := h2) rfl ?_
    obtain ⟨T3, F3⟩ := zwf' (ms := zcM zC29) (b := 7) T2 ha he2 (by omega) (zK0 (n := 0) (by decide) (by decide)) (by decide +kernel) (by decide +kernel)
    have he3 := zset_eq (e := .inr (9, gs.set 7 (.int (Int32.ofInt (0))))) he2
    have hl3 : (gs.set 7 (.int (Int32.ofInt (0)))).length = 23 := by rw [List.length_set]; exact hl1
    refine zh_put zJ_181 (b := 7) (c := 9) (z := 0) rfl (k' := 26) rfl he2 (by omega) rfl ?_
    have hd3 := (zset_ne (h := h2) (e := .inr (9, gs.set 7 (.int (Int32.ofInt (0))))) (show a ≠ w2 from fun e => by rw [e, hw2] at ha; cases ha)).trans hd2
    have hs3 := (zset_ne (h := h2) (e := .inr (9, gs.set 7 (.int (Int32.ofInt (0))))) (show a ≠ w1 from fun e => by rw [e, hw1] at ha; cases ha)).trans hs2
    generalize gs.set 7 (.int (Int32.ofInt (0))) = gs3 at T3 F3 he3 hl3 hd3 hs3 ⊢
    generalize h2.set a (.inr (9, gs3)) = h3 at T3 F3 he3 hd3 hs3 ⊢
    refine zh zJ_181 (i := (0, 0, 0, 1)) rfl rfl (k' := 27) (lo' := [(1, .int x), (0, .ref a)]) (st' := [.int (Int32.ofInt (1))]) (h' := h3) rfl ?_
    refine zh_iret zJ_181 (a := 0) (b := 0) (z := 0) rfl (Or.inr ⟨rfl, Or.inr rfl⟩) ?_
    have F := F2.tr zExt.rf F3
    have L1 : zLT f1 := zEt_keep T T3 F hw1 (Or.inr (Or.inl rfl)) hs3 (fun i h1 h2 => znt_ok (by decide +kernel) h1 h2) E.2
    refine hret _ h3 T3 ⟨E.1, fun b t n f hb hz hbf => ?_⟩ F (by decide) (by decide)
    rcases hz with rfl | rfl | rfl
    · have e := E.1 b w2 21 (by omega) (by omega) hb hw2
      subst e
      rw [hd3] at hbf
      cases hbf
      exact zLT_congr (fun k k1 k2 => by have := hcp k (by omega); rw [Nat.zero_add] at this; exact this) L1
    · exact zEt_keep T T3 F hb (Or.inr (Or.inl rfl)) hbf (fun i h1 h2 => znt_ok (by decide +kernel) h1 h2) E.2
    · exact zEt_keep T T3 F hb (Or.inr (Or.inr rfl)) hbf (fun i h1 h2 => znt_ok (by decide +kernel) h1 h2) E.2
  · refine zh zJ_181 (i := (0, 0, 0, 0)) rfl rfl (k' := 7) (lo' := [(0, .ref a)]) (st' := [.int (Int32.ofInt (0))]) (h' := h1) rfl ?_
    refine zh_iret zJ_181 (a := 0) (b := 0) (z := 0) rfl (Or.inr ⟨rfl, Or.inl rfl⟩) ?_
    exact hret _ h1 T1 E1 F1 (by decide) (by decide)
end
