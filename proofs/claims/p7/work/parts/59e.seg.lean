/-! pieces by the checker that tell how numbers have changed -/
abbrev zTg : Type := Nat × List (Nat × zA) × List (Nat × Int × zA) × List (zRk × zRk × Int)
noncomputable def zdq (env : List zEn) (loc : zLs) (me : List zMe) (sloc : zLs) (sme : List zMe) (q : zRk × zRk × Int) : Bool := match zvid sloc sme q.2.1, zvid loc me q.1 with
  | some a, some b => decide ((zav env b).1 = 0) && decide (zdel env a b = some q.2.2)
  | _, _ => false
noncomputable def zht1 (tt : Nat → zTy) (ct : zCt) (c0 : zCut) (s : zSt) (f : zAf) (g : zTg) : Bool := decide (g.1 = f.2.1) && (decide (f.1 = zcJ ct) && (f.2.2.2.isEmpty && (decide (s.2.2.2.1 = 0) && (decide (s.2.2.2.2 = 0) && (za_l s.1 f.2.2.1 g.2.1 && (za_m tt s.1 s.2.1 f.2.2.1 g.2.2.1 && g.2.2.2.all (zdq s.1 f.2.2.1 s.2.1 (zc_loc c0) (zc_me c0))))))))
noncomputable def zht (tt : Nat → zTy) (ct : zCt) (c0 : zCut) (gs : List zTg) (s : zSt) : Bool := match s.2.2.1 with
  | [f] => gs.any (zht1 tt ct c0 s f)
  | _ => false
noncomputable def zstop (gs : List zTg) (s : zSt) : Bool := match s.2.2.1 with
  | [f] => gs.any (fun g => g.1 == f.2.1)
  | _ => false
noncomputable def zxs (tt : Nat → zTy) (cts : List zCt) (cand : List (List Nat)) (own : Nat) (ct : zCt) (stop hit : zSt → Bool) : Nat → zSt → Bool
  | 0, _ => false
  | n + 1, s => match zstep tt cts cand own ct s with
    | none => false
    | some l => l.all (fun s' => if stop s' = true then hit s' else zxs tt cts cand own ct stop hit n s')
section ZSEG
variable {tt : Nat → zTy} {Ex : List Nat → zH → Prop} {cts : List zCt} {cand : List (List Nat)} {own : Nat} {ct : zCt} {ty0 : List Nat} {h0 : zH} {ρ0 : List Value} {sx : zX} {d0 : Nat}
theorem zxs_ok {stop hit : zSt → Bool} (hst : zStable tt Ex (zcM ct)) (hd : zcD ct ≤ d0) (hcts : ∀ c, c < own → ∀ c', cts[c]? = some c' → zVd tt Ex c') (hcut : ∀ (s : zSt) (cf : List zCf) (h : zH) (X Y : Nat), zRl tt Ex ct ty0 h0 ρ0 s cf h X Y → hit s = true → zGo sx d0 (zPo tt Ex ct ty0 h0) cf h X Y) : ∀ (n : Nat) (s : zSt) (cf : List zCf) (h : zH) (X Y : Nat), zRl tt Ex ct ty0 h0 ρ0 s cf h X Y → zxs tt cts cand own ct stop hit n s = true → zGo sx d0 (zPo tt Ex ct ty0 h0) cf h X Y
  | 0, _, _, _, _, _, _, hq => by cases hq
  | n + 1, s, cf, h, X, Y, R, hq => by
    rw [zxs] at hq
    split at hq
    case h_1 => cases hq
    next l hl =>
    refine zstep_ok hst hd hcts R hl ⟨fun _ _ _ _ q => q, fun s' hs' cf' h' X' Y' R' => ?_⟩
    have := List.all_eq_true.mp hq s' hs'
    split at this
    · exact hcut s' cf' h' X' Y' R' this
    · exact zxs_ok hst hd hcts hcut n s' cf' h' X' Y' R' this
theorem zdq_ok {ty : List Nat} {ρ ρ1 : List Value} {env : List zEn} {loc sloc : zLs} {me sme : List zMe} {lo lo1 : zL} {h h1 : zH} {q : zRk × zRk × Int} (E : zEv ty ρ env) (L : zLo ρ loc lo) (Mm : zMm h ρ me) (hx : zRx ρ1 ρ) (L1 : zLo ρ1 sloc lo1) (M1 : zMm h1 ρ1 sme) (hq : zdq env loc me sloc sme q = true) : zcv2 lo h q.1 = zcv2 lo1 h1 q.2.1 + q.2.2 := by
  unfold zdq at hq
  split at hq
  case h_2 => cases hq
  next a b ha hb =>
  rw [Bool.and_eq_true, decide_eq_true_eq, decide_eq_true_eq] at hq
  obtain ⟨w, hw⟩ : ∃ w, ρ[b]? = some w := by
    unfold zvid at hb
    split at hb
    · obtain ⟨v, v1, -⟩ := zlk_ok L hb; exact ⟨v, v1⟩
    · split at hb
      · obtain ⟨a9, e9, n9, w9, -, -, -, -, k5⟩ := Mm _ (zml_ok hb); exact ⟨w9, k5⟩
      · cases hb
  obtain ⟨u, hu⟩ : ∃ u, ρ1[a]? = some u := by
    unfold zvid at ha
    split at ha
    · obtain ⟨v, v1, -⟩ := zlk_ok L1 ha; exact ⟨v, v1⟩
    · split at ha
      · obtain ⟨a9, e9, n9, w9, -, -, -, -, k5⟩ := M1 _ (zml_ok ha); exact ⟨w9, k5⟩
      · cases ha
  obtain ⟨x, rfl, x1, x2⟩ := zG0 (E.at hw) hq.1
  obtain ⟨y, y1, y2⟩ := zdel_ok E hw hq.2
  have y3 : ρ1[a]? = some (.int y) := by
    have := hx a u hu
    rw [y1] at this
    rw [hu, ← Option.some.inj this]
  rw [zvid_ok L Mm hb hw, zvid_ok L1 M1 ha y3]
  exact y2
end ZSEG
/-- from one place to the next, by the checker, with what has changed by how much -/
theorem zseg2 {cts : List zCt} {cand : List (List Nat)} {own : Nat} {ct : zCt} {c0 : zCut} {gs : List zTg} {fuel : Nat} {ty0 : List Nat} {h0 : zH} {sx : zX} {d0 : Nat} {ty : List Nat} {lo : zL} {h : zH} {vl vm : List Value} (hst : zStable z_tt zE1 (zcM ct)) (hd : zcD ct ≤ d0) (hcts : ∀ c, c < own → ∀ c', cts[c]? = some c' → zVd z_tt zE1 c') (hck : zxs z_tt cts cand own ct (zstop gs) (zht z_tt ct c0 gs) fuel (zc_st ct c0) = true) (a2 : zExt ty0 ty) (T : zTY z_tt ty h) (E : zE1 ty h) (F : zFm (zcM ct) ty0 h0 h) (H1 : zVl ty lo c0.2.1 vl) (H2 : zVm ty lo h c0.2.2.1 vm) (hcut : ∀ g ∈ gs, ∀ (ty' : List Nat) (lo' : zL) (h' : zH) (vl' vm' : List Value), zExt ty0 ty' → zTY z_tt ty' h' → zE1 ty' h' → zFm (zcM ct) ty0 h0 h' → zVl ty' lo' g.2.1 vl' → zVm ty' lo' h' g.2.2.1 vm' → (∀ q ∈ g.2.2.2, zcv2 lo' h' q.1 = zcv2 lo h q.2.1 + q.2.2) → zGo sx d0 (zPo z_tt zE1 ct ty0 h0) [(zcJ ct, g.1, lo', [])] h' 0 0) : zGo sx d0 (zPo z_tt zE1 ct ty0 h0) [(zcJ ct, c0.1, lo, [])] h 0 0 := by
  refine zxs_ok (ρ0 := vl ++ vm) hst hd hcts (fun s cf h' X Y R hh => ?_) fuel (zc_st ct c0) _ h 0 0 (zc_start a2 T E F H1 H2) hck
  obtain ⟨ty', ρ, a1, b2, b3, b4, b5, b6, b7, b10, b11, b12⟩ := R
  unfold zht at hh
  split at hh
  case h_2 => cases hh
  next f hf =>
  rw [hf] at b10
  match cf, b10 with
  | [(j, k, lo', st)], b10 =>
  obtain ⟨c1, c2, c3, c4, -⟩ := b10
  obtain ⟨g, hg, h9⟩ := List.any_eq_true.mp hh
  unfold zht1 at h9
  simp only [Bool.and_eq_true, decide_eq_true_eq] at h9
  obtain ⟨d1, d2, d3, d4, d5, d6, d7, d8⟩ := h9
  obtain ⟨vl', hvl⟩ := za_l_ok b6 c3 d6
  obtain ⟨vm', hvm⟩ := za_m_ok b3 b6 b7 c3 d7
  have hst9 : st = [] := by
    rw [List.isEmpty_iff.mp d3] at c4
    cases st with
    | nil => rfl
    | cons _ _ => exact c4.elim
  subst hst9
  dsimp only at c1 c2
  have e1 : X = 0 := by omega
  have e2 : Y = 0 := by omega
  subst e1
  subst e2
  have := hcut g hg ty' lo' h' vl' vm' b2 b3 b4 b5 hvl hvm (fun q hq => zdq_ok b6 c3 b7 a1 (zc_lo H1) (zc_mm H1 H2) (List.all_eq_true.mp d8 q hq))
  rw [← c1, ← c2, ← d1, d2]
  exact this
