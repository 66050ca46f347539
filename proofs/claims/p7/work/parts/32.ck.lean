/-! THE CHECKER, and that a contract it passes holds -/
noncomputable def zat (ct : zCt) (s : zSt) : Bool := match s.2.2.1 with
  | [f] => (zcC ct).any (fun c => c.1 == f.2.1)
  | _ => false
noncomputable def zhit1 (tt : Nat → zTy) (ct : zCt) (src : Option zCut) (s : zSt) (f : zAf) (c : zCut) : Bool := decide (c.1 = f.2.1) && (decide (f.1 = zcJ ct) && (f.2.2.2.isEmpty && (decide (s.2.2.2.1 = 0) && (decide (s.2.2.2.2 = 0) && (za_l s.1 f.2.2.1 c.2.1 && (za_m tt s.1 s.2.1 f.2.2.1 c.2.2.1 && (match src with
  | none => true
  | some sc => zrk s.1 f.2.2.1 s.2.1 (zc_loc sc) (zc_me sc) sc.2.2.2 c.2.2.2)))))))
noncomputable def zhit (tt : Nat → zTy) (ct : zCt) (src : Option zCut) (s : zSt) : Bool := match s.2.2.1 with
  | [f] => (zcC ct).any (zhit1 tt ct src s f)
  | _ => false
noncomputable def zx (tt : Nat → zTy) (cts : List zCt) (cand : List (List Nat)) (own : Nat) (ct : zCt) (src : Option zCut) : Nat → zSt → Bool
  | 0, _ => false
  | n + 1, s => match zstep tt cts cand own ct s with
    | none => false
    | some l => l.all (fun s' => if zat ct s' = true then zhit tt ct src s' else zx tt cts cand own ct src n s')
noncomputable def zc_st (ct : zCt) (c : zCut) : zSt := (zc_env c, zc_me c, [(zcJ ct, c.1, zc_loc c, [])], 0, 0)
noncomputable def zsl : Nat → List zA → List (Nat × zA)
  | _, [] => []
  | p, a :: as => (p, a) :: zsl (if a.1 = 1 then p + 2 else p + 1) as
noncomputable def zc_0 (ct : zCt) : zCut := (0, zsl 0 (zcA ct), [], [])
noncomputable def zck (tt : Nat → zTy) (cts : List zCt) (cand : List (List Nat)) (own : Nat) (ct : zCt) (N fuel : Nat) : Bool :=
  (zcC ct).all (fun c => decide (c.2.2.2.length = N)) && ((if zat ct (zc_st ct (zc_0 ct)) = true then zhit tt ct none (zc_st ct (zc_0 ct)) else zx tt cts cand own ct none fuel (zc_st ct (zc_0 ct))) && (zcC ct).all (fun c => zx tt cts cand own ct (some c) fuel (zc_st ct c)))
theorem zsl_ge : ∀ {as : List zA} {p : Nat} {q : Nat × zA}, q ∈ zsl p as → p ≤ q.1
  | [], _, _, h => by cases h
  | a :: as, p, q, h => by
    rcases List.mem_cons.mp h with rfl | h
    · exact Nat.le_refl _
    · have := zsl_ge h
      split at this <;> omega
theorem zVl.cons {ty : List Nat} {lo : zL} {a : Nat} {w : Value} : ∀ {ps : List (Nat × zA)} {vs : List Value}, (∀ p ∈ ps, p.1 ≠ a) → zVl ty lo ps vs → zVl ty ((a, w) :: lo) ps vs
  | [], [], _, _ => trivial
  | _ :: _, _ :: _, hn, h => ⟨zget_cons h.1 (hn _ List.mem_cons_self), h.2.1, zVl.cons (fun p hp => hn p (List.mem_cons_of_mem _ hp)) h.2.2⟩
theorem zsl_ok {ty : List Nat} : ∀ {as : List zA} {vs : List Value} (p : Nat), zAg ty as vs → zVl ty (lv_args p vs) (zsl p as) vs
  | [], [], _, _ => trivial
  | a :: as, v :: vs, p, h => by
    have hc := zGcat h.1
    have e : (if v.category = 2 then p + 2 else p + 1) = (if a.1 = 1 then p + 2 else p + 1) := by
      rw [hc]
      by_cases h1 : a.1 = 1
      · rw [if_pos h1, if_pos rfl, if_pos h1]
      · rw [if_neg h1, if_neg (by decide), if_neg h1]
    rw [show lv_args p (v :: vs) = (p, v) :: lv_args (if v.category = 2 then p + 2 else p + 1) vs from rfl, e]
    refine ⟨zget_self, h.1, zVl.cons (fun q hq => ?_) (zsl_ok _ h.2)⟩
    have := zsl_ge hq
    split at this <;> omega
section ZCK
variable {tt : Nat → zTy} {Ex : List Nat → zH → Prop} {cts : List zCt} {cand : List (List Nat)} {own : Nat} {ct : zCt} {ty0 : List Nat} {h0 : zH} {ρ0 : List Value} {sx : zX} {d0 : Nat}
theorem zx_ok {src : Option zCut} (hst : zStable tt Ex (zcM ct)) (hd : zcD ct ≤ d0) (hcts : ∀ c, c < own → ∀ c', cts[c]? = some c' → zVd tt Ex c') (hcut : ∀ (s : zSt) (cf : List zCf) (h : zH) (X Y : Nat), zRl tt Ex ct ty0 h0 ρ0 s cf h X Y → zhit tt ct src s = true → zGo sx d0 (zPo tt Ex ct ty0 h0) cf h X Y) : ∀ (n : Nat) (s : zSt) (cf : List zCf) (h : zH) (X Y : Nat), zRl tt Ex ct ty0 h0 ρ0 s cf h X Y → zx tt cts cand own ct src n s = true → zGo sx d0 (zPo tt Ex ct ty0 h0) cf h X Y
  | 0, _, _, _, _, _, _, hq => by cases hq
  | n + 1, s, cf, h, X, Y, R, hq => by
    rw [zx] at hq
    split at hq
    case h_1 => cases hq
    next l hl =>
    refine zstep_ok hst hd hcts R hl ⟨fun _ _ _ _ q => q, fun s' hs' cf' h' X' Y' R' => ?_⟩
    have := List.all_eq_true.mp hq s' hs'
    split at this
    · exact hcut s' cf' h' X' Y' R' this
    · exact zx_ok hst hd hcts hcut n s' cf' h' X' Y' R' this
theorem zhit_ok {src : Option zCut} {s : zSt} {cf : List zCf} {h : zH} {X Y : Nat} (R : zRl tt Ex ct ty0 h0 ρ0 s cf h X Y) (hq : zhit tt ct src s = true) : ∃ c ∈ zcC ct, ∃ (ty : List Nat) (lo : zL) (vl vm : List Value), cf = [(zcJ ct, c.1, lo, [])] ∧ X = 0 ∧ Y = 0 ∧ zExt ty0 ty ∧ zTY tt ty h ∧ Ex ty h ∧ zFm (zcM ct) ty0 h0 h ∧ zVl ty lo c.2.1 vl ∧ zVm ty lo h c.2.2.1 vm ∧ ∀ sc, src = some sc → ∀ lo1 h1, zLo ρ0 (zc_loc sc) lo1 → zMm h1 ρ0 (zc_me sc) → zlex (c.2.2.2.map (zmc lo h)) (sc.2.2.2.map (zmc lo1 h1)) := by
  obtain ⟨ty, ρ, a1, a2, a3, a4, a5, a6, a7, a10, a11, a12⟩ := R
  unfold zhit at hq
  split at hq
  case h_2 => cases hq
  next f hf =>
  rw [hf] at a10
  match cf, a10 with
  | [(j, k, lo, st)], a10 =>
  obtain ⟨b1, b2, b3, b4, -⟩ := a10
  obtain ⟨c, hc, h9⟩ := List.any_eq_true.mp hq
  unfold zhit1 at h9
  simp only [Bool.and_eq_true, decide_eq_true_eq] at h9
  obtain ⟨c1, c2, c3, c4, c5, c6, c7, c8⟩ := h9
  obtain ⟨vl, hvl⟩ := za_l_ok a6 b3 c6
  obtain ⟨vm, hvm⟩ := za_m_ok a3 a6 a7 b3 c7
  have hst : st = [] := by
    rw [List.isEmpty_iff.mp c3] at b4
    cases st with
    | nil => rfl
    | cons _ _ => exact b4.elim
  subst hst
  dsimp only at b1 b2
  refine ⟨c, hc, ty, lo, vl, vm, by rw [← b1, ← b2, c1, c2], by omega, by omega, a2, a3, a4, a5, hvl, hvm, fun sc hsc lo1 h1 L1 M1 => ?_⟩
  subst hsc
  refine zrk_ok a6 b3 a7 a1 L1 M1 (fun s9 _ a ha => ?_) c8
  have : ∃ w, ρ0[a]? = some w := by
    unfold zvid at ha
    split at ha
    · obtain ⟨v, v1, -⟩ := zlk_ok L1 ha; exact ⟨v, v1⟩
    · split at ha
      · obtain ⟨a9, e9, n9, w9, -, -, -, -, k5⟩ := M1 _ (zml_ok ha); exact ⟨w9, k5⟩
      · cases ha
  obtain ⟨w, hw⟩ := this
  exact (List.getElem?_eq_some_iff.mp hw).1
theorem zc_start {ty : List Nat} {lo : zL} {h : zH} {c : zCut} {vl vm : List Value} (a2 : zExt ty0 ty) (a3 : zTY tt ty h) (a4 : Ex ty h) (a5 : zFm (zcM ct) ty0 h0 h) (H1 : zVl ty lo c.2.1 vl) (H2 : zVm ty lo h c.2.2.1 vm) : zRl tt Ex ct ty0 h0 (vl ++ vm) (zc_st ct c) [(zcJ ct, c.1, lo, [])] h 0 0 :=
  ⟨ty, vl ++ vm, zRx.rf, a2, a3, a4, a5, zc_ev H1 H2, zc_mm H1 H2, ⟨rfl, rfl, zc_lo H1, trivial, trivial⟩, Nat.le_refl _, Nat.le_refl _⟩
theorem zcut_ok {N fuel : Nat} (hst : zStable tt Ex (zcM ct)) (hd : zcD ct ≤ d0) (hcts : ∀ c, c < own → ∀ c', cts[c]? = some c' → zVd tt Ex c') (hN : ∀ c ∈ zcC ct, c.2.2.2.length = N) (hck : ∀ c ∈ zcC ct, zx tt cts cand own ct (some c) fuel (zc_st ct c) = true) : ∀ m : List Nat, m.length = N → ∀ c ∈ zcC ct, ∀ (ty : List Nat) (lo : zL) (h : zH) (vl vm : List Value), m = c.2.2.2.map (zmc lo h) → zExt ty0 ty → zTY tt ty h → Ex ty h → zFm (zcM ct) ty0 h0 h → zVl ty lo c.2.1 vl → zVm ty lo h c.2.2.1 vm → zGo sx d0 (zPo tt Ex ct ty0 h0) [(zcJ ct, c.1, lo, [])] h 0 0 := by
  refine zlex_ind N _ (fun m hm ih => ?_)
  intro c hc ty lo h vl vm hme a2 a3 a4 a5 H1 H2
  refine zx_ok (ρ0 := vl ++ vm) hst hd hcts (fun s cf h' X Y R hh => ?_) fuel (zc_st ct c) _ h 0 0 (zc_start a2 a3 a4 a5 H1 H2) (hck c hc)
  obtain ⟨c', hc', ty', lo', vl', vm', rfl, rfl, rfl, p2, p3, p4, p5, p6, p7, p8⟩ := zhit_ok R hh
  refine ih _ (by rw [List.length_map]; exact hN c' hc') ?_ c' hc' ty' lo' h' vl' vm' rfl p2 p3 p4 p5 p6 p7
  rw [hme]
  exact p8 c rfl lo h (zc_lo H1) (zc_mm H1 H2)
/-- what the checker passes holds -/
theorem zck_ok {N fuel : Nat} (hst : zStable tt Ex (zcM ct)) (hcts : ∀ c, c < own → ∀ c', cts[c]? = some c' → zVd tt Ex c') (hck : zck tt cts cand own ct N fuel = true) : zVd tt Ex ct := by
  unfold zck at hck
  rw [Bool.and_eq_true, Bool.and_eq_true] at hck
  obtain ⟨k1, k2, k3⟩ := hck
  have hN : ∀ c ∈ zcC ct, c.2.2.2.length = N := fun c hc => of_decide_eq_true (List.all_eq_true.mp k1 c hc)
  have hcuts := List.all_eq_true.mp k3
  intro sx d ty h as hd T hE hA
  have hgo : zGo sx d (zPo tt Ex ct ty h) [(zcJ ct, 0, lv_args 0 as, [])] h 0 0 := by
    have H1 : zVl ty (lv_args 0 as) (zc_0 ct).2.1 as := zsl_ok 0 hA
    have R := zc_start (tt := tt) (Ex := Ex) (ct := ct) (ty0 := ty) (h0 := h) (c := zc_0 ct) (vm := []) zExt.rf T hE zFm.rf H1 trivial
    have hcut : ∀ (s : zSt) (cf : List zCf) (h' : zH) (X Y : Nat), zRl tt Ex ct ty h (as ++ []) s cf h' X Y → zhit tt ct none s = true → zGo sx d (zPo tt Ex ct ty h) cf h' X Y := by
      intro s cf h' X Y R hh
      obtain ⟨c', hc', ty', lo', vl', vm', rfl, rfl, rfl, p2, p3, p4, p5, p6, p7, -⟩ := zhit_ok R hh
      exact zcut_ok (fuel := fuel) hst hd hcts hN hcuts _ (by rw [List.length_map]; exact hN c' hc') c' hc' ty' lo' h' vl' vm' rfl p2 p3 p4 p5 p6 p7
    split at k2
    · exact hcut _ _ h 0 0 R k2
    · exact zx_ok hst hd hcts hcut fuel _ _ h 0 0 R k2
  refine z_ok.imp hgo (fun o h' x y q => ?_)
  have q : zPo tt Ex ct ty h o h' (x + 0) (y + 0) := q
  exact q
/-- all contracts of a table -/
theorem zcts_ok (hck : ∀ (c : Nat) (ct : zCt), cts[c]? = some ct → (zStable tt Ex (zcM ct) ∧ ∃ N fuel, zck tt cts cand c ct N fuel = true) ∨ ((∀ c9, c9 < c → ∀ c', cts[c9]? = some c' → zVd tt Ex c') → zVd tt Ex ct)) : ∀ (c : Nat) (ct : zCt), cts[c]? = some ct → zVd tt Ex ct := by
  intro c
  induction c using Nat.strongRecOn with
  | ind c ih =>
    intro ct hct
    rcases hck c ct hct with ⟨hst, N, fuel, h⟩ | h
    · exact zck_ok hst (fun c9 h9 c' hc' => ih c9 h9 c' hc') h
    · exact h (fun c9 h9 c' hc' => ih c9 h9 c' hc')
end ZCK
