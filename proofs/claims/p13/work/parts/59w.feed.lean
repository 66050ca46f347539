section
/-! feed and end of both sides; printed with wip/gen/gen_feed.py -/
/-- pieces that tell which locals have stayed -/
abbrev zTk : Type := zTg × List Nat
noncomputable def zky (loc sloc : zLs) (i : Nat) : Bool := match zlk sloc i, zlk loc i with
  | some a, some b => decide (a = b)
  | _, _ => false
noncomputable def zht4 (tt : Nat → zTy) (ct : zCt) (c0 : zCut) (gs : List zTk) (s : zSt) : Bool := match s.2.2.1 with
  | [f] => gs.any (fun g => zht1 tt ct c0 s f g.1 && g.2.all (zky f.2.2.1 (zc_loc c0)))
  | _ => false
noncomputable def zstop4 (gs : List zTk) (s : zSt) : Bool := match s.2.2.1 with
  | [f] => gs.any (fun g => g.1.1 == f.2.1)
  | _ => false
theorem zky_ok {ρ ρ1 : List Value} {loc sloc : zLs} {lo lo1 : zL} {i : Nat} (L : zLo ρ loc lo) (hx : zRx ρ1 ρ) (L1 : zLo ρ1 sloc lo1) (h : zky loc sloc i = true) : z_get lo i = z_get lo1 i := by
  unfold zky at h
  split at h
  case h_2 => cases h
  next a b ha hb =>
  have e := of_decide_eq_true h
  subst e
  obtain ⟨v, v1, v2⟩ := zlk_ok L hb
  obtain ⟨u, u1, u2⟩ := zlk_ok L1 ha
  have := hx _ _ u1
  rw [v1] at this
  cases this
  rw [v2, u2]
theorem zseg4 {cts : List zCt} {cand : List (List Nat)} {own : Nat} {ct : zCt} {c0 : zCut} {gs : List zTk} {fuel : Nat} {ty0 : List Nat} {h0 : zH} {sx : zX} {d0 : Nat} {ty : List Nat} {lo : zL} {h : zH} {vl vm : List Value} {Φ : zO → zH → Nat → Nat → Prop} (hst : zStable z_tt zE1 (zcM ct)) (hd : zcD ct ≤ d0) (hcts : ∀ c, c < own → ∀ c', cts[c]? = some c' → zVd z_tt zE1 c') (hΦ : ∀ o h x y, zPo z_tt zE1 ct ty0 h0 o h x y → Φ o h x y) (hck : zxs z_tt cts cand own ct (zstop4 gs) (zht4 z_tt ct c0 gs) fuel (zc_st ct c0) = true) (a2 : zExt ty0 ty) (T : zTY z_tt ty h) (E : zE1 ty h) (F : zFm (zcM ct) ty0 h0 h) (H1 : zVl ty lo c0.2.1 vl) (H2 : zVm ty lo h c0.2.2.1 vm) (hcut : ∀ g ∈ gs, ∀ (ty' : List Nat) (lo' : zL) (h' : zH) (vl' vm' : List Value), zExt ty0 ty' → zTY z_tt ty' h' → zE1 ty' h' → zFm (zcM ct) ty0 h0 h' → zVl ty' lo' g.1.2.1 vl' → zVm ty' lo' h' g.1.2.2.1 vm' → (∀ q ∈ g.1.2.2.2, zcv2 lo' h' q.1 = zcv2 lo h q.2.1 + q.2.2) → (∀ i ∈ g.2, z_get lo' i = z_get lo i) → zGo sx d0 Φ [(zcJ ct, g.1.1, lo', [])] h' 0 0) : zGo sx d0 Φ [(zcJ ct, c0.1, lo, [])] h 0 0 := by
  refine zxs_ok3 (ρ0 := vl ++ vm) hst hd hcts hΦ (fun s cf h' X Y R hh => ?_) fuel (zc_st ct c0) _ h 0 0 (zc_start a2 T E F H1 H2) hck
  obtain ⟨ty', ρ, a1, b2, b3, b4, b5, b6, b7, b10, b11, b12⟩ := R
  unfold zht4 at hh
  split at hh
  case h_2 => cases hh
  next f hf =>
  rw [hf] at b10
  match cf, b10 with
  | [(j, k, lo', st)], b10 =>
  obtain ⟨c1, c2, c3, c4, -⟩ := b10
  obtain ⟨g, hg, h9⟩ := List.any_eq_true.mp hh
  rw [Bool.and_eq_true] at h9
  obtain ⟨h9, h8⟩ := h9
  unfold zht1 at h9
  simp only [Bool.and_eq_true, decide_eq_true_eq] at h9
  obtain ⟨d1, d2, d3, d4, d5, d6, d7, d8⟩ := h9
  obtain ⟨vl', hvl⟩ := za_l_ok b6 c3 d6
  obtain ⟨vm', hvm⟩ := za_m_ok b3 b6 b7 c3 d7
  have hst9 : st = [] := by
    rw [List.isEmpty_iff.mp d3] at c4
    cases st with
    | nil => rfl
    | cons _ _ => exact c4.elim
  subst hst9
  dsimp only at c1 c2
  have e1 : X = 0 := by omega
  have e2 : Y = 0 := by omega
  subst e1
  subst e2
  have := hcut g hg ty' lo' h' vl' vm' b2 b3 b4 b5 hvl hvm (fun q hq => zdq_ok b6 c3 b7 a1 (zc_lo H1) (zc_mm H1 H2) (List.all_eq_true.mp d8 q hq)) (fun i hi => zky_ok c3 a1 (zc_lo H1) (List.all_eq_true.mp h8 i hi))
  rw [← c1, ← c2, ← d1, d2]
  exact this
theorem zok_go {sx : zX} {d j k : Nat} {lo : zL} {h : zH} {Φ : zO → zH → Nat → Nat → Prop} (H : zGo sx d Φ [(j, k, lo, [])] h 0 0) : z_ok sx d j k lo [] h Φ := H
/-! append of the class -/
noncomputable def zL1 (h : zH) (t : Nat) (n : Int) : Prop := ∃ (e : zE) (x : Int32), h[t]? = some e ∧ z_rd e 1 = some (.int x) ∧ x.toInt = n
noncomputable def zC_ap : zCt := (85, [(2, 2, 2), zFull], [(0, 1, 0)], [], [(2, 1, 1), (3, 0, 399)], 0, (0, 0, 0, 0), [])
noncomputable def zA2 : zCut := (2, [(0, (2, 2, 2)), (1, zFull), (2, (0, 0, 24))], [(0, 1, (0, 0, 399))], [])
noncomputable def zAg2 : zTk := ((2, [(2, (0, -8, 16))], [(0, 1, (0, 0, 400))], [((3, 0, 1, 0), (3, 0, 1, 0), 1), ((1, 2, 0, 0), (1, 2, 0, 0), -8)]), [0, 1])
theorem zK_ap : zxs z_tt zCtl zCand 34 zC_ap (zstop4 [zAg2]) (zht4 z_tt zC_ap zA2 [zAg2]) 4000 (zc_st zC_ap zA2) = true := by decide +kernel
theorem zcvf {lo : zL} {h : zH} {i a : Nat} {b : Nat} {z : Int} {e : zE} {x : Int32} (hg : z_get lo i = some (.ref a)) (he : h[a]? = some e) (hr : z_rd e b = some (.int x)) : zcv2 lo h (3, i, (b : Int), z) = x.toInt := by
  unfold zcv2
  rw [if_neg (show ¬ 3 ≤ 2 by decide), hg]
  dsimp only
  rw [he]
  dsimp only
  rw [Int.toNat_natCast, hr]
theorem zJ_85 : zJ3 85 z_m85 z_c85 z_h85 := ⟨rfl, rfl, rfl⟩
set_option maxRecDepth 100000 in
theorem zLp_85 {sx : zX} {d : Nat} {ty0 : List Nat} {h0 : zH} {t : Nat} {v : Int32} {N0 : Int} (H : ∀ c, c < 34 → ∀ c', zCtl[c]? = some c' → zVd z_tt zE1 c') (ht : ty0[t]? = some 2) : ∀ (r : Nat) (N : Int) (ty : List Nat) (lo : zL) (h : zH) (sv : Int32), r ≤ 4 → N0 = N + (r : Int) → sv.toInt = 8 * (r : Int) - 8 → 0 ≤ N → N + (r : Int) ≤ 400 → zExt ty0 ty → zTY z_tt ty h → zE1 ty h → zFm (zcM zC_ap) ty0 h0 h → z_get lo 0 = some (.ref t) → z_get lo 1 = some (.int v) → z_get lo 2 = some (.int sv) → zL1 h t N → z_ok sx d 85 2 lo [] h (zRq (fun w h' => w = none ∧ ∃ ty', zExt ty0 ty' ∧ zTY z_tt ty' h' ∧ zE1 ty' h' ∧ zFm (zcM zC_ap) ty0 h0 h' ∧ zL1 h' t N0))
  | 0, N, ty, lo, h, sv, hr, hN0, hs, hN, hN4, X, T, E, F, g0, g1, g2, hL => by
    refine zh_ild zJ_85 (a := 2) (b := 0) (z := 0) rfl (k' := 3) rfl g2 ?_
    refine zh_if zJ_85 (a := 26) (b := 2) (z := 0) rfl (fun hc => ?_) (fun hc => absurd (zcmp_lt.mpr (by rw [show (0 : Int32).toInt = 0 from rfl]; omega)) hc)
    refine zh_vret zJ_85 (a := 0) (b := 0) (z := 0) rfl ?_
    exact ⟨_, rfl, rfl, rfl, rfl, ty, X, T, E, F, by rw [show N0 = N by omega]; exact hL⟩
  | r + 1, N, ty, lo, h, sv, hr, hN0, hs, hN, hN4, X, T, E, F, g0, g1, g2, hL => by
    obtain ⟨e, x, he, hrd, ex⟩ := hL
    refine zok_go ?_
    refine zseg4 (ct := zC_ap) (c0 := zA2) (gs := [zAg2]) (d0 := d) (vl := [.ref t, .int v, .int sv]) (vm := [.int x]) (zE1_stable (by decide +kernel)) (Nat.zero_le _) H (zPo_no rfl rfl _) zK_ap X T E F ⟨g0, ⟨t, 2, rfl, X t 2 ht, Int.le_refl _, Int.le_refl _⟩, g1, zFull_ok v, g2, ⟨sv, rfl, by omega, by omega⟩, trivial⟩ ⟨⟨t, e, 1, g0, he, rfl, hrd⟩, ⟨x, rfl, by omega, by omega⟩, trivial⟩ (fun g hg ty' lo' h' vl' vm' X' T' E' F' V W R K => ?_)
    rw [List.mem_singleton.mp hg] at V W R K ⊢
    match vl', V with
    | [u2], V =>
    match vm', W with
    | [m], W =>
    obtain ⟨k2, ⟨y2, rfl, -, -⟩, -⟩ := V
    obtain ⟨⟨t', e', i', k0, he', hi', hrd'⟩, ⟨m1, rfl, -, -⟩, -⟩ := W
    have j0 := (K 0 (by decide)).trans g0
    have j1 := (K 1 (by decide)).trans g1
    rw [k0] at j0
    cases j0
    have hi9 : i' = 1 := by have : (1 : Int) = (i' : Int) := hi'; omega
    subst hi9
    have r1 := R ((3, 0, 1, 0), (3, 0, 1, 0), 1) (by decide)
    have r2 := R ((1, 2, 0, 0), (1, 2, 0, 0), -8) (by decide)
    rw [show zcv2 lo' h' (3, 0, 1, 0) = m1.toInt from zcvf (b := 1) k0 he' hrd', show zcv2 lo h (3, 0, 1, 0) = x.toInt from zcvf (b := 1) g0 he hrd] at r1
    rw [zcvl k2, zcvl g2] at r2
    have r1 : m1.toInt = x.toInt + 1 := r1
    have r2 : y2.toInt = sv.toInt + -8 := r2
    exact zLp_85 H ht r (N + 1) ty' lo' h' y2 (by omega) (by omega) (by omega) (by omega) (by omega) X' T' E' F' k0 j1 k2 ⟨e', m1, he', hrd', by omega⟩
set_option maxRecDepth 100000 in
theorem zS_85 {sx : zX} {d : Nat} {ty : List Nat} {h : zH} {t : Nat} {v : Int32} {N : Int} (H : ∀ c, c < 34 → ∀ c', zCtl[c]? = some c' → zVd z_tt zE1 c') (T : zTY z_tt ty h) (E : zE1 ty h) (ht : ty[t]? = some 2) (hL : zL1 h t N) (h1 : 0 ≤ N) (h2 : N + ((4 : Nat) : Int) ≤ 400) : z_ok sx d 85 0 (lv_args 0 [.ref t, .int v]) [] h (zRq (fun w h' => w = none ∧ ∃ ty', zExt ty ty' ∧ zTY z_tt ty' h' ∧ zE1 ty' h' ∧ zFm (zcM zC_ap) ty h h' ∧ zL1 h' t (N + ((4 : Nat) : Int)))) := by
  show z_ok sx d 85 0 [(0, .ref t), (1, .int v)] [] h _
  refine zh zJ_85 (i := (0, 0, 0, 24)) rfl rfl (k' := 1) (lo' := [(0, .ref t), (1, .int v)]) (st' := [.int (Int32.ofInt (24))]) (h' := h) rfl ?_
  refine zh zJ_85 (i := (4, 2, 0, 0)) rfl rfl (k' := 2) (lo' := [(2, .int (Int32.ofInt (24))), (0, .ref t), (1, .int v)]) (st' := []) (h' := h) rfl ?_
  exact zLp_85 H ht 4 N ty _ h _ (Nat.le_refl _) rfl rfl h1 h2 zExt.rf T E zFm.rf rfl rfl rfl hL
/-- the class's tape, at t, of length n -/
noncomputable def zTq (ty : List Nat) (h : zH) (ax t : Nat) (n : Int) : Prop := ty[ax]? = some 1 ∧ ty[t]? = some 2 ∧ (∃ e, h[ax]? = some e ∧ z_rd e 0 = some (.ref t)) ∧ zL1 h t n
theorem zTp.q {ty : List Nat} {h : zH} {ax : Nat} {n : Int} (ha : ty[ax]? = some 1) (H : zTp ty h ax n) : ∃ t, zTq ty h ax t n := by
  obtain ⟨e1, e2, t, x, a1, a2, a3, a4, a5, a6⟩ := H
  exact ⟨t, ha, a3, ⟨e1, a1, a2⟩, e2, x, a4, a5, a6⟩
theorem zTq.p {ty : List Nat} {h : zH} {ax t : Nat} {n : Int} (H : zTq ty h ax t n) : zTp ty h ax n := by
  obtain ⟨a0, a1, ⟨e, a2, a3⟩, e2, x, a4, a5, a6⟩ := H
  exact ⟨e, e2, t, x, a2, a3, a1, a4, a5, a6⟩
theorem zTq.at {ty : List Nat} {h : zH} {ax t : Nat} {n : Int} (T : zTY z_tt ty h) (H : zTq ty h ax t n) : ∃ (fs ts : List Value) (x : Int32), h[ax]? = some (.inr (8, fs)) ∧ fs.length = 8 ∧ fs[0]? = some (.ref t) ∧ h[t]? = some (.inr (6, ts)) ∧ ts.length = 4 ∧ ts[1]? = some (.int x) ∧ x.toInt = n := by
  obtain ⟨a0, a1, ⟨e, a2, a3⟩, e2, x, a4, a5, a6⟩ := H
  obtain ⟨fs, b1, b2⟩ := zcell0 (c := 8) (n := 8) T a0 rfl rfl rfl
  obtain ⟨ts, c1, c2⟩ := zcell0 (c := 6) (n := 4) T a1 rfl rfl rfl
  rw [b1] at a2
  cases a2
  rw [c1] at a4
  cases a4
  exact ⟨fs, ts, x, b1, b2, a3, c1, c2, a5, a6⟩
theorem zTq.app {ms : List zMod} {ty ty' : List Nat} {h h' : zH} {ax t : Nat} {n n' : Int} (H : zTq ty h ax t n) (T' : zTY z_tt ty' h') (X : zExt ty ty') (F : zFm ms ty h h') (h1 : ¬ zIn ms 1 0) (hL : zL1 h' t n') : zTq ty' h' ax t n' := by
  obtain ⟨a0, a1, ⟨e, a2, a3⟩, -⟩ := H
  obtain ⟨f1, b1⟩ := zat_ex (h := h) T' X a0
  exact ⟨X ax 1 a0, X t 2 a1, ⟨f1, b1, (F.2 ax 1 e f1 a0 a2 b1 0 h1).trans a3⟩, hL⟩
theorem zJ_118 : zJ3 118 z_m118 z_c118 z_h118 := ⟨rfl, rfl, rfl⟩
theorem zcmp_le {x y : Int32} : z_cmp 5 x y = true ↔ x.toInt ≤ y.toInt := by
  show (!decide (y < x)) = true ↔ _
  rw [Bool.not_eq_true', decide_eq_false_iff_not, Int32.lt_iff_toInt_lt]
  omega
set_option maxRecDepth 100000 in
theorem zS_118 {sx : zX} {d : Nat} {ty : List Nat} {h : zH} {ax t : Nat} {v1 v2 v3 v4 v5 : Int32} {N : Int} (H : ∀ c, c < 34 → ∀ c', zCtl[c]? = some c' → zVd z_tt zE1 c') (hd : 1 ≤ d) (T : zTY z_tt ty h) (E : zE1 ty h) (Q : zTq ty h ax t N) (h1 : 0 ≤ N) (h2 : N ≤ 400) : z_ok sx d 118 0 (lv_args 0 [.ref ax, .int v1, .int v2, .int v3, .int v4, .int v5]) [] h (zRq (fun w h' => ∃ (c : Int32) (ty' : List Nat), w = some (.int c) ∧ zExt ty ty' ∧ zTY z_tt ty' h' ∧ zE1 ty' h' ∧ zFm (zcM zC_ap) ty h h' ∧ ((N + 20 ≤ 400 ∧ c.toInt = N + 20 ∧ zTp ty' h' ax (N + 20)) ∨ (400 < N + 20 ∧ c.toInt = -1 ∧ zTp ty' h' ax N)))) := by
  show z_ok sx d 118 0 [(0, .ref ax), (1, .int v1), (2, .int v2), (3, .int v3), (4, .int v4), (5, .int v5)] [] h _
  obtain ⟨fs, ts, x, he, hl, f0, het, hlt, g1, ex⟩ := Q.at T
  refine zh zJ_118 (i := (2, 0, 0, 0)) rfl rfl (k' := 1) (lo' := [(0, .ref ax), (1, .int v1), (2, .int v2), (3, .int v3), (4, .int v4), (5, .int v5)]) (st' := [.ref ax]) (h' := h) rfl ?_
  refine zh_get zJ_118 (b := 0) (c := 8) (z := 0) rfl (k' := 2) rfl he f0 ?_
  refine zh_get zJ_118 (b := 1) (c := 6) (z := 0) rfl (k' := 3) rfl het g1 ?_
  refine zh zJ_118 (i := (0, 0, 0, 20)) rfl rfl (k' := 4) (lo' := [(0, .ref ax), (1, .int v1), (2, .int v2), (3, .int v3), (4, .int v4), (5, .int v5)]) (st' := [.int (Int32.ofInt (20)), .int x]) (h' := h) rfl ?_
  refine zh zJ_118 (i := (8, 0, 0, 0)) rfl rfl (k' := 5) (lo' := [(0, .ref ax), (1, .int v1), (2, .int v2), (3, .int v3), (4, .int v4), (5, .int v5)]) (st' := [.int (x + (Int32.ofInt (20)))]) (h' := h) rfl ?_
  refine zh zJ_118 (i := (0, 0, 0, 400)) rfl rfl (k' := 6) (lo' := [(0, .ref ax), (1, .int v1), (2, .int v2), (3, .int v3), (4, .int v4), (5, .int v5)]) (st' := [.int (Int32.ofInt (400)), .int (x + (Int32.ofInt (20)))]) (h' := h) rfl ?_
  have e20 : (x + Int32.ofInt (20)).toInt = N + 20 := zI_add ex (zI_c (by decide) (by decide)) (by omega) (by omega)
  refine zh_icmp zJ_118 (a := 9) (b := 5) (z := 0) rfl (fun hc1 => ?_) (fun hc1 => ?_)
  · have hle : N + 20 ≤ 400 := (by have := zcmp_le.mp hc1; rw [e20, zI_c (by decide) (by decide)] at this; exact this)
    refine zh zJ_118 (i := (2, 0, 0, 0)) rfl rfl (k' := 10) (lo' := [(0, .ref ax), (1, .int v1), (2, .int v2), (3, .int v3), (4, .int v4), (5, .int v5)]) (st' := [.ref ax]) (h' := h) rfl ?_
    refine zh_get zJ_118 (b := 0) (c := 8) (z := 0) rfl (k' := 11) rfl he f0 ?_
    refine zh zJ_118 (i := (1, 1, 0, 0)) rfl rfl (k' := 12) (lo' := [(0, .ref ax), (1, .int v1), (2, .int v2), (3, .int v3), (4, .int v4), (5, .int v5)]) (st' := [.int v1, .ref t]) (h' := h) rfl ?_
    refine zh_run (rest := []) (as := [.ref t, .int v1]) zJ_118 (i := (54, 85, 1, 6)) rfl (by decide) (zcal54 (xs := [.int v1]) (by omega) rfl rfl het rfl (Nat.le_of_ble_eq_true rfl) (M' := z_m85) rfl (Nat.le_of_ble_eq_true rfl)) (zS_85 (N := N) H T E Q.2.1 Q.2.2.2 (by omega) (by omega)) (fun o h1 x1 y1 q => ?_)
    obtain ⟨v, rfl, rfl, rfl, rfl, ty1, X1, T1, E1, F1, L1⟩ := q
    refine ⟨_, rfl, rfl, rfl, ?_⟩
    have Q1 := Q.app T1 X1 F1 (zNin _ _ _ (by decide +kernel)) L1
    obtain ⟨fs1, ts1, z1, he1, hl1, f01, het1, hlt1, g11, ex1⟩ := Q1.at T1
    show z_ok sx d 118 13 [(0, .ref ax), (1, .int v1), (2, .int v2), (3, .int v3), (4, .int v4), (5, .int v5)] [] h1 _
    refine zh zJ_118 (i := (2, 0, 0, 0)) rfl rfl (k' := 14) (lo' := [(0, .ref ax), (1, .int v1), (2, .int v2), (3, .int v3), (4, .int v4), (5, .int v5)]) (st' := [.ref ax]) (h' := h1) rfl ?_
    refine zh_get zJ_118 (b := 0) (c := 8) (z := 0) rfl (k' := 15) rfl he1 f01 ?_
    refine zh zJ_118 (i := (1, 2, 0, 0)) rfl rfl (k' := 16) (lo' := [(0, .ref ax), (1, .int v1), (2, .int v2), (3, .int v3), (4, .int v4), (5, .int v5)]) (st' := [.int v2, .ref t]) (h' := h1) rfl ?_
    refine zh_run (rest := []) (as := [.ref t, .int v2]) zJ_118 (i := (54, 85, 1, 6)) rfl (by decide) (zcal54 (xs := [.int v2]) (by omega) rfl rfl het1 rfl (Nat.le_of_ble_eq_true rfl) (M' := z_m85) rfl (Nat.le_of_ble_eq_true rfl)) (zS_85 (N := (N + ((4 : Nat) : Int))) H T1 E1 Q1.2.1 Q1.2.2.2 (by omega) (by omega)) (fun o h2 x2 y2 q => ?_)
    obtain ⟨v, rfl, rfl, rfl, rfl, ty2, X2, T2, E2, F2, L2⟩ := q
    refine ⟨_, rfl, rfl, rfl, ?_⟩
    have Q2 := Q1.app T2 X2 F2 (zNin _ _ _ (by decide +kernel)) L2
    obtain ⟨fs2, ts2, z2, he2, hl2, f02, het2, hlt2, g12, ex2⟩ := Q2.at T2
    show z_ok sx d 118 17 [(0, .ref ax), (1, .int v1), (2, .int v2), (3, .int v3), (4, .int v4), (5, .int v5)] [] h2 _
    refine zh zJ_118 (i := (2, 0, 0, 0)) rfl rfl (k' := 18) (lo' := [(0, .ref ax), (1, .int v1), (2, .int v2), (3, .int v3), (4, .int v4), (5, .int v5)]) (st' := [.ref ax]) (h' := h2) rfl ?_
    refine zh_get zJ_118 (b := 0) (c := 8) (z := 0) rfl (k' := 19) rfl he2 f02 ?_
    refine zh zJ_118 (i := (1, 3, 0, 0)) rfl rfl (k' := 20) (lo' := [(0, .ref ax), (1, .int v1), (2, .int v2), (3, .int v3), (4, .int v4), (5, .int v5)]) (st' := [.int v3, .ref t]) (h' := h2) rfl ?_
    refine zh_run (rest := []) (as := [.ref t, .int v3]) zJ_118 (i := (54, 85, 1, 6)) rfl (by decide) (zcal54 (xs := [.int v3]) (by omega) rfl rfl het2 rfl (Nat.le_of_ble_eq_true rfl) (M' := z_m85) rfl (Nat.le_of_ble_eq_true rfl)) (zS_85 (N := ((N + ((4 : Nat) : Int)) + ((4 : Nat) : Int))) H T2 E2 Q2.2.1 Q2.2.2.2 (by omega) (by omega)) (fun o h3 x3 y3 q => ?_)
    obtain ⟨v, rfl, rfl, rfl, rfl, ty3, X3, T3, E3, F3, L3⟩ := q
    refine ⟨_, rfl, rfl, rfl, ?_⟩
    have Q3 := Q2.app T3 X3 F3 (zNin _ _ _ (by decide +kernel)) L3
    obtain ⟨fs3, ts3, z3, he3, hl3, f03, het3, hlt3, g13, ex3⟩ := Q3.at T3
    show z_ok sx d 118 21 [(0, .ref ax), (1, .int v1), (2, .int v2), (3, .int v3), (4, .int v4), (5, .int v5)] [] h3 _
    refine zh zJ_118 (i := (2, 0, 0, 0)) rfl rfl (k' := 22) (lo' := [(0, .ref ax), (1, .int v1), (2, .int v2), (3, .int v3), (4, .int v4), (5, .int v5)]) (st' := [.ref ax]) (h' := h3) rfl ?_
    refine zh_get zJ_118 (b := 0) (c := 8) (z := 0) rfl (k' := 23) rfl he3 f03 ?_
    refine zh zJ_118 (i := (1, 4, 0, 0)) rfl rfl (k' := 24) (lo' := [(0, .ref ax), (1, .int v1), (2, .int v2), (3, .int v3), (4, .int v4), (5, .int v5)]) (st' := [.int v4, .ref t]) (h' := h3) rfl ?_
    refine zh_run (rest := []) (as := [.ref t, .int v4]) zJ_118 (i := (54, 85, 1, 6)) rfl (by decide) (zcal54 (xs := [.int v4]) (by omega) rfl rfl het3 rfl (Nat.le_of_ble_eq_true rfl) (M' := z_m85) rfl (Nat.le_of_ble_eq_true rfl)) (zS_85 (N := (((N + ((4 : Nat) : Int)) + ((4 : Nat) : Int)) + ((4 : Nat) : Int))) H T3 E3 Q3.2.1 Q3.2.2.2 (by omega) (by omega)) (fun o h4 x4 y4 q => ?_)
    obtain ⟨v, rfl, rfl, rfl, rfl, ty4, X4, T4, E4, F4, L4⟩ := q
    refine ⟨_, rfl, rfl, rfl, ?_⟩
    have Q4 := Q3.app T4 X4 F4 (zNin _ _ _ (by decide +kernel)) L4
    obtain ⟨fs4, ts4, z4, he4, hl4, f04, het4, hlt4, g14, ex4⟩ := Q4.at T4
    show z_ok sx d 118 25 [(0, .ref ax), (1, .int v1), (2, .int v2), (3, .int v3), (4, .int v4), (5, .int v5)] [] h4 _
    refine zh zJ_118 (i := (2, 0, 0, 0)) rfl rfl (k' := 26) (lo' := [(0, .ref ax), (1, .int v1), (2, .int v2), (3, .int v3), (4, .int v4), (5, .int v5)]) (st' := [.ref ax]) (h' := h4) rfl ?_
    refine zh_get zJ_118 (b := 0) (c := 8) (z := 0) rfl (k' := 27) rfl he4 f04 ?_
    refine zh zJ_118 (i := (1, 5, 0, 0)) rfl rfl (k' := 28) (lo' := [(0, .ref ax), (1, .int v1), (2, .int v2), (3, .int v3), (4, .int v4), (5, .int v5)]) (st' := [.int v5, .ref t]) (h' := h4) rfl ?_
    refine zh_run (rest := []) (as := [.ref t, .int v5]) zJ_118 (i := (54, 85, 1, 6)) rfl (by decide) (zcal54 (xs := [.int v5]) (by omega) rfl rfl het4 rfl (Nat.le_of_ble_eq_true rfl) (M' := z_m85) rfl (Nat.le_of_ble_eq_true rfl)) (zS_85 (N := ((((N + ((4 : Nat) : Int)) + ((4 : Nat) : Int)) + ((4 : Nat) : Int)) + ((4 : Nat) : Int))) H T4 E4 Q4.2.1 Q4.2.2.2 (by omega) (by omega)) (fun o h5 x5 y5 q => ?_)
    obtain ⟨v, rfl, rfl, rfl, rfl, ty5, X5, T5, E5, F5, L5⟩ := q
    refine ⟨_, rfl, rfl, rfl, ?_⟩
    have Q5 := Q4.app T5 X5 F5 (zNin _ _ _ (by decide +kernel)) L5
    obtain ⟨fs5, ts5, z5, he5, hl5, f05, het5, hlt5, g15, ex5⟩ := Q5.at T5
    show z_ok sx d 118 29 [(0, .ref ax), (1, .int v1), (2, .int v2), (3, .int v3), (4, .int v4), (5, .int v5)] [] h5 _
    refine zh zJ_118 (i := (2, 0, 0, 0)) rfl rfl (k' := 30) (lo' := [(0, .ref ax), (1, .int v1), (2, .int v2), (3, .int v3), (4, .int v4), (5, .int v5)]) (st' := [.ref ax]) (h' := h5) rfl ?_
    refine zh_get zJ_118 (b := 0) (c := 8) (z := 0) rfl (k' := 31) rfl he5 f05 ?_
    refine zh_get zJ_118 (b := 1) (c := 6) (z := 0) rfl (k' := 32) rfl het5 g15 ?_
    refine zh_iret zJ_118 (a := 0) (b := 0) (z := 0) rfl (Or.inl rfl) ?_
    exact ⟨_, rfl, rfl, rfl, _, ty5, rfl, (((X1.tr X2).tr X3).tr X4).tr X5, T5, E5, ((((F1.tr X1 F2).tr (X1.tr X2) F3).tr ((X1.tr X2).tr X3) F4).tr (((X1.tr X2).tr X3).tr X4) F5), Or.inl ⟨hle, by omega, by have := Q5.p; rw [show N + 20 = N + ((4 : Nat) : Int) + ((4 : Nat) : Int) + ((4 : Nat) : Int) + ((4 : Nat) : Int) + ((4 : Nat) : Int) by omega]; exact this⟩⟩
  · have hgt : 400 < N + 20 := (by have := mt zcmp_le.mpr hc1; rw [e20, zI_c (by decide) (by decide)] at this; omega)
    refine zh zJ_118 (i := (0, 0, 0, -1)) rfl rfl (k' := 8) (lo' := [(0, .ref ax), (1, .int v1), (2, .int v2), (3, .int v3), (4, .int v4), (5, .int v5)]) (st' := [.int (Int32.ofInt (-1))]) (h' := h) rfl ?_
    refine zh_iret zJ_118 (a := 0) (b := 0) (z := 0) rfl (Or.inl rfl) ?_
    exact ⟨_, rfl, rfl, rfl, _, ty, rfl, zExt.rf, T, E, zFm.rf, Or.inr ⟨hgt, by decide, Q.p⟩⟩
theorem zJ_119 : zJ3 119 z_m119 z_c119 z_h119 := ⟨rfl, rfl, rfl⟩
set_option maxRecDepth 100000 in
theorem zS_119 {sx : zX} {d : Nat} {ty : List Nat} {h : zH} {ax t : Nat} {v : Int32} {N : Int} (T : zTY z_tt ty h) (E : zE1 ty h) (Q : zTq ty h ax t N) (h2 : N ≤ 400) : z_ok sx d 119 0 (lv_args 0 [.ref ax, .int v]) [] h (zRq (fun w h' => ∃ c : Int32, w = some (.int c) ∧ zTY z_tt ty h' ∧ zE1 ty h' ∧ zFm [(2, 1, 1)] ty h h' ∧ (((0 ≤ v.toInt ∧ v.toInt ≤ N) ∧ c = 1 ∧ zTp ty h' ax v.toInt) ∨ (¬ (0 ≤ v.toInt ∧ v.toInt ≤ N) ∧ c = 0 ∧ zTp ty h' ax N)))) := by
  show z_ok sx d 119 0 [(0, .ref ax), (1, .int v)] [] h _
  obtain ⟨fs, ts, x, he, hl, f0, het, hlt, g1, ex⟩ := Q.at T
  refine zh zJ_119 (i := (1, 1, 0, 0)) rfl rfl (k' := 1) (lo' := [(0, .ref ax), (1, .int v)]) (st' := [.int v]) (h' := h) rfl ?_
  refine zh_if zJ_119 (a := 7) (b := 2) (z := 0) rfl (fun hc2 => ?_) (fun hc2 => ?_)
  · have hv : v.toInt < 0 := zcmp_lt.mp hc2
    refine zh zJ_119 (i := (0, 0, 0, 0)) rfl rfl (k' := 8) (lo' := [(0, .ref ax), (1, .int v)]) (st' := [.int (Int32.ofInt (0))]) (h' := h) rfl ?_
    refine zh_iret zJ_119 (a := 0) (b := 0) (z := 0) rfl (Or.inr ⟨rfl, Or.inl rfl⟩) ?_
    exact ⟨_, rfl, rfl, rfl, _, rfl, T, E, zFm.rf, Or.inr ⟨by omega, rfl, Q.p⟩⟩
  · have hv : 0 ≤ v.toInt := (by have := mt zcmp_lt.mpr hc2; rw [show (0 : Int32).toInt = 0 from rfl] at this; omega)
    refine zh zJ_119 (i := (1, 1, 0, 0)) rfl rfl (k' := 3) (lo' := [(0, .ref ax), (1, .int v)]) (st' := [.int v]) (h' := h) rfl ?_
    refine zh zJ_119 (i := (2, 0, 0, 0)) rfl rfl (k' := 4) (lo' := [(0, .ref ax), (1, .int v)]) (st' := [.ref ax, .int v]) (h' := h) rfl ?_
    refine zh_get zJ_119 (b := 0) (c := 8) (z := 0) rfl (k' := 5) rfl he f0 ?_
    refine zh_get zJ_119 (b := 1) (c := 6) (z := 0) rfl (k' := 6) rfl het g1 ?_
    refine zh_icmp zJ_119 (a := 9) (b := 5) (z := 0) rfl (fun hc3 => ?_) (fun hc3 => ?_)
    · have hv2 : v.toInt ≤ N := (by have := zcmp_le.mp hc3; omega)
      refine zh zJ_119 (i := (2, 0, 0, 0)) rfl rfl (k' := 10) (lo' := [(0, .ref ax), (1, .int v)]) (st' := [.ref ax]) (h' := h) rfl ?_
      refine zh_get zJ_119 (b := 0) (c := 8) (z := 0) rfl (k' := 11) rfl he f0 ?_
      refine zh zJ_119 (i := (1, 1, 0, 0)) rfl rfl (k' := 12) (lo' := [(0, .ref ax), (1, .int v)]) (st' := [.int v, .ref t]) (h' := h) rfl ?_
      refine zputT zJ_119 (k' := 13) rfl rfl T E Q.2.1 het (by omega) (show zG ty (0, 0, 400) (.int v) from ⟨v, rfl, hv, by omega⟩) (by decide +kernel) [(2, 1, 1)] (by decide +kernel) (by decide +kernel) rfl (fun h1 T1 E1 F1 he1 hq1 => ?_)
      refine zh zJ_119 (i := (0, 0, 0, 1)) rfl rfl (k' := 14) (lo' := [(0, .ref ax), (1, .int v)]) (st' := [.int (Int32.ofInt (1))]) (h' := h1) rfl ?_
      refine zh_iret zJ_119 (a := 0) (b := 0) (z := 0) rfl (Or.inr ⟨rfl, Or.inr rfl⟩) ?_
      exact ⟨_, rfl, rfl, rfl, _, rfl, T1, E1, F1, Or.inl ⟨⟨hv, hv2⟩, rfl, (Q.app T1 zExt.rf F1 (zNin _ _ _ (by decide +kernel)) ⟨_, v, he1, List.getElem?_set_self (by omega), rfl⟩).p⟩⟩
    · have hv2 : N < v.toInt := (by have := mt zcmp_le.mpr hc3; omega)
      refine zh zJ_119 (i := (0, 0, 0, 0)) rfl rfl (k' := 8) (lo' := [(0, .ref ax), (1, .int v)]) (st' := [.int (Int32.ofInt (0))]) (h' := h) rfl ?_
      refine zh_iret zJ_119 (a := 0) (b := 0) (z := 0) rfl (Or.inr ⟨rfl, Or.inl rfl⟩) ?_
      exact ⟨_, rfl, rfl, rfl, _, rfl, T, E, zFm.rf, Or.inr ⟨by omega, rfl, Q.p⟩⟩
theorem zMp.at {ty : List Nat} {h : zH} {a : Nat} {n : Int} (T : zTY z_tt ty h) (ha : ty[a]? = some 20) (H : zMp h a n) : ∃ (fs : List Value) (x : Int32), h[a]? = some (.inr (9, fs)) ∧ fs.length = 23 ∧ fs[9]? = some (.int x) ∧ x.toInt = n := by
  obtain ⟨e1, x, a1, a2, a3⟩ := H
  obtain ⟨fs, b1, b2⟩ := zcell0 (c := 9) (n := 23) T ha rfl rfl rfl
  rw [b1] at a1
  cases a1
  exact ⟨fs, x, b1, b2, a2, a3⟩
theorem zJ_200 : zJ3 200 z_m200 z_c200 z_h200 := ⟨rfl, rfl, rfl⟩
set_option maxRecDepth 100000 in
theorem zS_200 {sx : zX} {d : Nat} {ty : List Nat} {h : zH} {a : Nat} {v : Int32} {N : Int} (T : zTY z_tt ty h) (E : zE1 ty h) (ha : ty[a]? = some 20) (Q : zMp h a N) (h9 : N ≤ 400) : z_ok sx d 200 0 (lv_args 0 [.ref a, .int v]) [] h (zRq (fun w h' => ∃ c : Int32, w = some (.int c) ∧ zTY z_tt ty h' ∧ zE1 ty h' ∧ zFm [(20, 0, 0), (20, 9, 9)] ty h h' ∧ (((0 ≤ v.toInt ∧ v.toInt ≤ N) ∧ c = 1 ∧ zMp h' a v.toInt) ∨ (¬ (0 ≤ v.toInt ∧ v.toInt ≤ N) ∧ c = 0 ∧ zMp h' a N)))) := by
  show z_ok sx d 200 0 [(0, .ref a), (1, .int v)] [] h _
  obtain ⟨fs, x, he, hl, g9, ex⟩ := Q.at T ha
  refine zh zJ_200 (i := (2, 0, 0, 0)) rfl rfl (k' := 1) (lo' := [(0, .ref a), (1, .int v)]) (st' := [.ref a]) (h' := h) rfl ?_
  refine zh zJ_200 (i := (0, 0, 0, 0)) rfl rfl (k' := 2) (lo' := [(0, .ref a), (1, .int v)]) (st' := [.int (Int32.ofInt (0)), .ref a]) (h' := h) rfl ?_
  refine zputT zJ_200 (k' := 3) rfl rfl T E ha he (by omega) (zK0 (by decide) (by decide)) (by decide +kernel) [(20, 0, 0), (20, 9, 9)] (by decide +kernel) (by decide +kernel) rfl (fun h1 T1 E1 F1 he1 hq1 => ?_)
  have Q1 : zMp h1 a N := ⟨_, x, he1, (List.getElem?_set_ne (by decide)).trans g9, ex⟩
  refine zh zJ_200 (i := (1, 1, 0, 0)) rfl rfl (k' := 4) (lo' := [(0, .ref a), (1, .int v)]) (st' := [.int v]) (h' := h1) rfl ?_
  refine zh_if zJ_200 (a := 9) (b := 2) (z := 0) rfl (fun hc4 => ?_) (fun hc4 => ?_)
  · have hv : v.toInt < 0 := zcmp_lt.mp hc4
    refine zh zJ_200 (i := (0, 0, 0, 0)) rfl rfl (k' := 10) (lo' := [(0, .ref a), (1, .int v)]) (st' := [.int (Int32.ofInt (0))]) (h' := h1) rfl ?_
    refine zh_iret zJ_200 (a := 0) (b := 0) (z := 0) rfl (Or.inr ⟨rfl, Or.inl rfl⟩) ?_
    exact ⟨_, rfl, rfl, rfl, _, rfl, T1, E1, F1, Or.inr ⟨by omega, rfl, Q1⟩⟩
  · have hv : 0 ≤ v.toInt := (by have := mt zcmp_lt.mpr hc4; rw [show (0 : Int32).toInt = 0 from rfl] at this; omega)
    refine zh zJ_200 (i := (1, 1, 0, 0)) rfl rfl (k' := 6) (lo' := [(0, .ref a), (1, .int v)]) (st' := [.int v]) (h' := h1) rfl ?_
    refine zh zJ_200 (i := (2, 0, 0, 0)) rfl rfl (k' := 7) (lo' := [(0, .ref a), (1, .int v)]) (st' := [.ref a, .int v]) (h' := h1) rfl ?_
    refine zh_get zJ_200 (b := 9) (c := 9) (z := 0) rfl (k' := 8) rfl he1 ((List.getElem?_set_ne (by decide)).trans g9) ?_
    refine zh_icmp zJ_200 (a := 11) (b := 5) (z := 0) rfl (fun hc5 => ?_) (fun hc5 => ?_)
    · have hv2 : v.toInt ≤ N := (by have := zcmp_le.mp hc5; omega)
      refine zh zJ_200 (i := (2, 0, 0, 0)) rfl rfl (k' := 12) (lo' := [(0, .ref a), (1, .int v)]) (st' := [.ref a]) (h' := h1) rfl ?_
      refine zh zJ_200 (i := (1, 1, 0, 0)) rfl rfl (k' := 13) (lo' := [(0, .ref a), (1, .int v)]) (st' := [.int v, .ref a]) (h' := h1) rfl ?_
      refine zputT zJ_200 (k' := 14) rfl rfl T1 E1 ha he1 (by simp only [List.length_set]; omega) (show zG ty (0, 0, 400) (.int v) from ⟨v, rfl, hv, by omega⟩) (by decide +kernel) [(20, 0, 0), (20, 9, 9)] (by decide +kernel) (by decide +kernel) rfl (fun h2 T2 E2 F2 he2 hq2 => ?_)
      refine zh zJ_200 (i := (0, 0, 0, 1)) rfl rfl (k' := 15) (lo' := [(0, .ref a), (1, .int v)]) (st' := [.int (Int32.ofInt (1))]) (h' := h2) rfl ?_
      refine zh_iret zJ_200 (a := 0) (b := 0) (z := 0) rfl (Or.inr ⟨rfl, Or.inr rfl⟩) ?_
      exact ⟨_, rfl, rfl, rfl, _, rfl, T2, E2, F1.tr zExt.rf F2, Or.inl ⟨⟨hv, hv2⟩, rfl, _, v, he2, List.getElem?_set_self (by simp only [List.length_set]; omega), rfl⟩⟩
    · have hv2 : N < v.toInt := (by have := mt zcmp_le.mpr hc5; omega)
      refine zh zJ_200 (i := (0, 0, 0, 0)) rfl rfl (k' := 10) (lo' := [(0, .ref a), (1, .int v)]) (st' := [.int (Int32.ofInt (0))]) (h' := h1) rfl ?_
      refine zh_iret zJ_200 (a := 0) (b := 0) (z := 0) rfl (Or.inr ⟨rfl, Or.inl rfl⟩) ?_
      exact ⟨_, rfl, rfl, rfl, _, rfl, T1, E1, F1, Or.inr ⟨by omega, rfl, Q1⟩⟩
theorem zJ_199 : zJ3 199 z_m199 z_c199 z_h199 := ⟨rfl, rfl, rfl⟩
noncomputable def zC_mf : zCt := (199, [(2, 20, 20), zFull, zFull, zFull, zFull, zFull], [(0, 1, 0)], [], [(26, 0, 399), (27, 0, 4)], 0, (0, 0, 0, 0), [])
noncomputable def zF11 : zCut := (11, [(0, (2, 20, 20)), (1, zFull), (2, zFull), (3, zFull), (4, zFull), (5, zFull)], [(0, 9, (0, 0, 380))], [])
noncomputable def zF38 : zCut := (38, [(0, (2, 20, 20)), (6, (0, 0, 19))], [(0, 9, (0, 0, 380)), (0, 15, (2, 27, 27))], [])
noncomputable def zFg1 : zTk := ((38, [(6, (0, 0, 0))], [(0, 15, (2, 27, 27))], []), [0])
noncomputable def zFg2 : zTk := ((38, [(6, (0, 1, 20))], [(0, 15, (2, 27, 27))], [((1, 6, 0, 0), (1, 6, 0, 0), 1)]), [0])
theorem zK_mf1 : zxs z_tt zCtl zCand 34 zC_mf (zstop4 [zFg1]) (zht4 z_tt zC_mf zF11 [zFg1]) 4000 (zc_st zC_mf zF11) = true := by decide +kernel
theorem zK_mf2 : zxs z_tt zCtl zCand 34 zC_mf (zstop4 [zFg2]) (zht4 z_tt zC_mf zF38 [zFg2]) 4000 (zc_st zC_mf zF38) = true := by decide +kernel
set_option maxRecDepth 100000 in
theorem zLp_199 {sx : zX} {d : Nat} {ty0 : List Nat} {h0 : zH} {a : Nat} {N : Int} (H : ∀ c, c < 34 → ∀ c', zCtl[c]? = some c' → zVd z_tt zE1 c') (ha : ty0[a]? = some 20) (Q : zMp h0 a N) (h1 : 0 ≤ N) (h2 : N ≤ 380) : ∀ (r : Nat) (ty : List Nat) (lo : zL) (h : zH) (k : Int32), r ≤ 20 → k.toInt = 20 - (r : Int) → zExt ty0 ty → zTY z_tt ty h → zE1 ty h → zFm (zcM zC_mf) ty0 h0 h → z_get lo 0 = some (.ref a) → z_get lo 6 = some (.int k) → z_ok sx d 199 38 lo [] h (zRq (fun w h' => ∃ (c : Int32) (ty' : List Nat), w = some (.int c) ∧ c.toInt = N + 20 ∧ zExt ty0 ty' ∧ zTY z_tt ty' h' ∧ zE1 ty' h' ∧ zFm [(20, 9, 9), (26, 0, 399), (27, 0, 4)] ty0 h0 h' ∧ zMp h' a (N + 20)))
  | 0, ty, lo, h, k, hr, hk, X, T, E, F, g0, g6 => by
    obtain ⟨fs, x, he, hl, g9, ex⟩ := (Q.keep ha T X F (zNin _ _ _ (by decide +kernel))).at T (X a 20 ha)
    refine zh_ild zJ_199 (a := 6) (b := 0) (z := 0) rfl (k' := 39) rfl g6 ?_
    refine zh zJ_199 (i := (0, 0, 0, 20)) rfl rfl (k' := 40) (lo' := lo) (st' := [.int (Int32.ofInt (20)), .int k]) (h' := h) rfl ?_
    refine zh_icmp zJ_199 (a := 65) (b := 3) (z := 0) rfl (fun hc => ?_) (fun hc => absurd (zcmp_ge.mpr (by rw [zI_c (by decide) (by decide)]; omega)) hc)
    refine zh_ald zJ_199 (a := 0) (b := 0) (z := 0) rfl (k' := 66) rfl g0 ?_
    refine zh zJ_199 (i := (27, 0, 0, 0)) rfl rfl (k' := 67) (lo' := lo) (st' := [.ref a, .ref a]) (h' := h) rfl ?_
    refine zh_get zJ_199 (b := 9) (c := 9) (z := 0) rfl (k' := 68) rfl he g9 ?_
    refine zh zJ_199 (i := (0, 0, 0, 20)) rfl rfl (k' := 69) (lo' := lo) (st' := [.int (Int32.ofInt (20)), .int x, .ref a]) (h' := h) rfl ?_
    refine zh zJ_199 (i := (8, 0, 0, 0)) rfl rfl (k' := 70) (lo' := lo) (st' := [.int (x + Int32.ofInt (20)), .ref a]) (h' := h) rfl ?_
    have e20 : (x + Int32.ofInt (20)).toInt = N + 20 := zI_add ex (zI_c (by decide) (by decide)) (by omega) (by omega)
    refine zputT zJ_199 (k' := 71) rfl rfl T E (X a 20 ha) he (by omega) (show zG ty (0, 0, 400) (.int (x + Int32.ofInt (20))) from ⟨_, rfl, by omega, by omega⟩) (by decide +kernel) [(20, 9, 9)] (by decide +kernel) (by decide +kernel) rfl (fun h1 T1 E1 F1 he1 hq1 => ?_)
    refine zh_ald zJ_199 (a := 0) (b := 0) (z := 0) rfl (k' := 72) rfl g0 ?_
    refine zh_get zJ_199 (b := 9) (c := 9) (z := 0) rfl (k' := 73) rfl he1 (List.getElem?_set_self (by omega)) ?_
    refine zh_iret zJ_199 (a := 0) (b := 0) (z := 0) rfl (Or.inl rfl) ?_
    exact ⟨_, rfl, rfl, rfl, _, ty, rfl, e20, X, T1, E1, (F.wide (by decide +kernel)).tr X (F1.wide (by decide +kernel)), _, _, he1, List.getElem?_set_self (by omega), e20⟩
  | r + 1, ty, lo, h, k, hr, hk, X, T, E, F, g0, g6 => by
    obtain ⟨fs, x, he, hl, g9, ex⟩ := (Q.keep ha T X F (zNin _ _ _ (by decide +kernel))).at T (X a 20 ha)
    obtain ⟨w, g15, hw⟩ := zfd2 (b := 15) (u := 27) T (X a 20 ha) he (by omega) (by decide +kernel)
    refine zok_go ?_
    refine zseg4 (ct := zC_mf) (c0 := zF38) (gs := [zFg2]) (d0 := d) (vl := [.ref a, .int k]) (vm := [.int x, .ref w]) (zE1_stable (by decide +kernel)) (Nat.zero_le _) H (zPo_no rfl rfl _) zK_mf2 X T E F ⟨g0, ⟨a, 20, rfl, X a 20 ha, Int.le_refl _, Int.le_refl _⟩, g6, ⟨k, rfl, by omega, by omega⟩, trivial⟩ ⟨⟨a, _, 9, g0, he, rfl, g9⟩, ⟨x, rfl, by omega, by omega⟩, ⟨a, _, 15, g0, he, rfl, g15⟩, ⟨w, 27, rfl, hw, Int.le_refl _, Int.le_refl _⟩, trivial⟩ (fun g hg ty' lo' h' vl' vm' X' T' E' F' V W R K => ?_)
    rw [List.mem_singleton.mp hg] at V W R K ⊢
    match vl', V with
    | [u2], V =>
    obtain ⟨k2, ⟨y2, rfl, -, -⟩, -⟩ := V
    have j0 := (K 0 (by decide)).trans g0
    have r2 := R ((1, 6, 0, 0), (1, 6, 0, 0), 1) (by decide)
    rw [zcvl k2, zcvl g6] at r2
    have r2 : y2.toInt = k.toInt + 1 := r2
    exact zLp_199 H ha Q h1 h2 r ty' lo' h' y2 (by omega) (by omega) X' T' E' F' j0 k2
set_option maxRecDepth 100000 in
theorem zS_199 {sx : zX} {d : Nat} {ty : List Nat} {h : zH} {a : Nat} {v1 v2 v3 v4 v5 : Int32} {N : Int} (H : ∀ c, c < 34 → ∀ c', zCtl[c]? = some c' → zVd z_tt zE1 c') (T : zTY z_tt ty h) (E : zE1 ty h) (ha : ty[a]? = some 20) (Q : zMp h a N) (h9 : 0 ≤ N) (h10 : N ≤ 400) : z_ok sx d 199 0 (lv_args 0 [.ref a, .int v1, .int v2, .int v3, .int v4, .int v5]) [] h (zRq (fun w h' => ∃ (c : Int32) (ty' : List Nat), w = some (.int c) ∧ zExt ty ty' ∧ zTY z_tt ty' h' ∧ zE1 ty' h' ∧ zFm [(20, 0, 0), (20, 9, 9), (26, 0, 399), (27, 0, 4)] ty h h' ∧ ((N + 20 ≤ 400 ∧ c.toInt = N + 20 ∧ zMp h' a (N + 20)) ∨ (400 < N + 20 ∧ c.toInt = -1 ∧ zMp h' a N)))) := by
  show z_ok sx d 199 0 [(0, .ref a), (1, .int v1), (2, .int v2), (3, .int v3), (4, .int v4), (5, .int v5)] [] h _
  obtain ⟨fs, x, he, hl, g9, ex⟩ := Q.at T ha
  refine zh zJ_199 (i := (2, 0, 0, 0)) rfl rfl (k' := 1) (lo' := [(0, .ref a), (1, .int v1), (2, .int v2), (3, .int v3), (4, .int v4), (5, .int v5)]) (st' := [.ref a]) (h' := h) rfl ?_
  refine zh zJ_199 (i := (0, 0, 0, 0)) rfl rfl (k' := 2) (lo' := [(0, .ref a), (1, .int v1), (2, .int v2), (3, .int v3), (4, .int v4), (5, .int v5)]) (st' := [.int (Int32.ofInt (0)), .ref a]) (h' := h) rfl ?_
  refine zputT zJ_199 (k' := 3) rfl rfl T E ha he (by omega) (zK0 (by decide) (by decide)) (by decide +kernel) [(20, 0, 0)] (by decide +kernel) (by decide +kernel) rfl (fun h1 T1 E1 F1 he1 hq1 => ?_)
  have g91 := (List.getElem?_set_ne (l := fs) (i := 0) (j := 9) (a := .int (Int32.ofInt (0))) (by decide)).trans g9
  have Q1 : zMp h1 a N := ⟨_, x, he1, g91, ex⟩
  refine zh zJ_199 (i := (2, 0, 0, 0)) rfl rfl (k' := 4) (lo' := [(0, .ref a), (1, .int v1), (2, .int v2), (3, .int v3), (4, .int v4), (5, .int v5)]) (st' := [.ref a]) (h' := h1) rfl ?_
  refine zh_get zJ_199 (b := 9) (c := 9) (z := 0) rfl (k' := 5) rfl he1 g91 ?_
  refine zh zJ_199 (i := (0, 0, 0, 20)) rfl rfl (k' := 6) (lo' := [(0, .ref a), (1, .int v1), (2, .int v2), (3, .int v3), (4, .int v4), (5, .int v5)]) (st' := [.int (Int32.ofInt (20)), .int x]) (h' := h1) rfl ?_
  refine zh zJ_199 (i := (8, 0, 0, 0)) rfl rfl (k' := 7) (lo' := [(0, .ref a), (1, .int v1), (2, .int v2), (3, .int v3), (4, .int v4), (5, .int v5)]) (st' := [.int (x + (Int32.ofInt (20)))]) (h' := h1) rfl ?_
  refine zh zJ_199 (i := (0, 0, 0, 400)) rfl rfl (k' := 8) (lo' := [(0, .ref a), (1, .int v1), (2, .int v2), (3, .int v3), (4, .int v4), (5, .int v5)]) (st' := [.int (Int32.ofInt (400)), .int (x + (Int32.ofInt (20)))]) (h' := h1) rfl ?_
  have e20 : (x + Int32.ofInt (20)).toInt = N + 20 := zI_add ex (zI_c (by decide) (by decide)) (by omega) (by omega)
  refine zh_icmp zJ_199 (a := 11) (b := 5) (z := 0) rfl (fun hc6 => ?_) (fun hc6 => ?_)
  · have hle : N + 20 ≤ 400 := (by have := zcmp_le.mp hc6; rw [e20, zI_c (by decide) (by decide)] at this; exact this)
    have hgo := zseg4 (ct := zC_mf) (c0 := zF11) (gs := [zFg1]) (d0 := d) (sx := sx) (lo := [(0, .ref a), (1, .int v1), (2, .int v2), (3, .int v3), (4, .int v4), (5, .int v5)]) (h := h1) (ty := ty) (ty0 := ty) (h0 := h1) (Φ := zRq (fun w h' => ∃ (c : Int32) (ty' : List Nat), w = some (.int c) ∧ c.toInt = N + 20 ∧ zExt ty ty' ∧ zTY z_tt ty' h' ∧ zE1 ty' h' ∧ zFm [(20, 9, 9), (26, 0, 399), (27, 0, 4)] ty h1 h' ∧ zMp h' a (N + 20))) (vl := [.ref a, .int v1, .int v2, .int v3, .int v4, .int v5]) (vm := [.int x]) (zE1_stable (by decide +kernel)) (Nat.zero_le _) H (zPo_no rfl rfl _) zK_mf1 zExt.rf T1 E1 zFm.rf ⟨rfl, ⟨a, 20, rfl, ha, Int.le_refl _, Int.le_refl _⟩, rfl, zFull_ok _, rfl, zFull_ok _, rfl, zFull_ok _, rfl, zFull_ok _, rfl, zFull_ok _, trivial⟩ ⟨⟨a, _, 9, rfl, he1, rfl, g91⟩, ⟨x, rfl, by omega, by omega⟩, trivial⟩ (fun g hg ty' lo' h' vl' vm' X' T' E' F' V W R K => by
      rw [List.mem_singleton.mp hg] at V W R K ⊢
      match vl', V with
      | [u2], V =>
      obtain ⟨k2, ⟨y2, rfl, y3, y4⟩, -⟩ := V
      have j0 := (K 0 (by decide)).trans (show z_get _ 0 = some (.ref a) from rfl)
      exact zLp_199 H ha Q1 h9 (by omega) 20 ty' lo' h' y2 (Nat.le_refl _) (by omega) X' T' E' F' j0 k2)
    refine z_ok.imp hgo (fun o h' x9 y9 q => ?_)
    obtain ⟨v, q0, q1, q2, c, ty', q3, q4, X, T', E', F', M'⟩ := q
    exact ⟨v, q0, q1, q2, c, ty', q3, X, T', E', (F1.wide (by decide +kernel)).tr zExt.rf (F'.wide (by decide +kernel)), Or.inl ⟨hle, q4, M'⟩⟩
  · have hgt : 400 < N + 20 := (by have := mt zcmp_le.mpr hc6; rw [e20, zI_c (by decide) (by decide)] at this; omega)
    refine zh zJ_199 (i := (0, 0, 0, -1)) rfl rfl (k' := 10) (lo' := [(0, .ref a), (1, .int v1), (2, .int v2), (3, .int v3), (4, .int v4), (5, .int v5)]) (st' := [.int (Int32.ofInt (-1))]) (h' := h1) rfl ?_
    refine zh_iret zJ_199 (a := 0) (b := 0) (z := 0) rfl (Or.inl rfl) ?_
    exact ⟨_, rfl, rfl, rfl, _, ty, rfl, zExt.rf, T1, E1, F1.wide (by decide +kernel), Or.inr ⟨hgt, by decide, Q1⟩⟩
end
section
/-! the class's lawRead; printed with wip/gen/gen_lrd.py -/
section ZHA
variable {sx : zX} {d j k : Nat} {lo : zL} {st : List Value} {h : zH} {Ψ : zO → zH → Nat → Nat → Prop} {M : zMi} {cs : List zI} {hs : List zHd} {i : zI}
/-- a step that makes something -/
theorem zha {k' : Nat} {lo' : zL} {st' : List Value} {h' : zH} {x y : Nat} (J : zJ3 j M cs hs) (hi : cs[k]? = some i) (hn : znc i.1 = true) (ho : (z_ops.getD i.1 z_no) sx d i.2.1 i.2.2.1 i.2.2.2 k lo st h = some (k', lo', st', h', x, y)) (kk : z_ok sx d j k' lo' st' h' (fun o h9 a b => Ψ o h9 (a + x) (b + y))) : z_ok sx d j k lo st h Ψ := by
  have hn := of_decide_eq_true hn
  exact z_ok.step J.1 J.2.1 J.2.2 hi (z_fin_no ⟨hn.1, hn.2.1, hn.2.2.1, hn.2.2.2.1, hn.2.2.2.2.1⟩) (z_cal_non hn.2.2.2.2.2) ho kk
theorem zh_aret {a b r : Nat} {z : Int} (J : zJ3 j M cs hs) (hi : cs[k]? = some (52, a, b, z)) (kk : Ψ (.inl (some (.ref r))) h 0 0) : z_ok sx d j k lo [.ref r] h Ψ := z_ok.fin J.1 J.2.1 J.2.2 hi rfl kk
theorem zh_oinit {a b k' r : Nat} {z : Int} (J : zJ3 j M cs hs) (hi : cs[k]? = some (57, a, b, z)) (hk : k + 1 = k') (hd : 6 ≤ d) (hz : z_cat st ≤ 8) (kk : z_ok sx d j k' lo st h Ψ) : z_ok sx d j k lo (.ref r :: st) h Ψ := by
  refine zh J hi rfl ?_ kk
  show zo_oinit sx d a b z k lo (.ref r :: st) h = _
  unfold zo_oinit
  dsimp only
  rw [if_pos ⟨hd, hz⟩, hk]
theorem zcal56 {j' n r : Nat} {c : Int} {xs rest : List Value} {M' : zMi} (hd : 0 < d) (hst : st = xs ++ .ref r :: rest) (hx : xs.length = n) (hz : z_cat rest ≤ 8) (hM : z_ms[j']? = some M') (hl : (lg_sl (.ref r :: xs.reverse)).length ≤ M'.2.2.2.1) : z_cal (56, j', n, c) d st h = some (j', .ref r :: xs.reverse, rest) := by
  subst hst
  have h0 : z_cal0 (56, j', n, c) d (xs ++ .ref r :: rest) h = some (j', .ref r :: xs.reverse, rest) := by
    unfold z_cal0
    have e1 : ¬ (d = 0 ∨ (xs ++ Value.ref r :: rest).length < n) := by
      rw [List.length_append, List.length_cons]
      omega
    have e2 : (xs ++ Value.ref r :: rest).drop n = .ref r :: rest := by rw [← hx]; exact List.drop_left
    have e3 : (xs ++ Value.ref r :: rest).take n = xs := by rw [← hx]; exact List.take_left
    dsimp only
    rw [if_neg e1, e2, e3]
    dsimp only
    rw [if_pos hz]
    rfl
  unfold z_cal
  rw [h0]
  dsimp only
  rw [hM]
  dsimp only
  rw [if_pos hl]
end ZHA
theorem zapp_lt {h es : zH} {a : Nat} {e : zE} (he : h[a]? = some e) : (h ++ es)[a]? = some e := by
  rw [List.getElem?_append_left (List.getElem?_eq_some_iff.mp he).1]
  exact he
theorem zapp_at {h es : zH} {e : zE} : (h ++ e :: es)[h.length]? = some e := by
  rw [List.getElem?_append_right (Nat.le_refl _), Nat.sub_self]
  rfl
theorem zapp_set {h : zH} {e e' : zE} : (h ++ [e]).set h.length e' = h ++ [e'] := by
  rw [List.set_append_right _ _ (Nat.le_refl _), Nat.sub_self]
  rfl
theorem zJ_314 : zJ3 314 z_m314 z_c314 z_h314 := ⟨rfl, rfl, rfl⟩
set_option maxRecDepth 100000 in
theorem zS_314 {sx : zX} {d s n X : Nat} {h : zH} {f : Nat → Int32} {x : Int32} (hd : 6 ≤ d) (he : h[s]? = some (.inl (0, (n, .inl f)))) (hn : n ≤ 400) (hx : x.toInt = (X : Int)) (hX : X ≤ n) (hB : h.length < zB) : z_ok sx d 314 0 (lv_args 0 [.ref s, .int x]) [] h (fun o h' a b => ∃ g : Nat → Int32, o = .inl (some (.ref h.length)) ∧ h' = h ++ [.inl (0, (X, .inl g))] ∧ (∀ i, i < X → g i = f i) ∧ a = 1 ∧ b = X) := by
  show z_ok sx d 314 0 [(0, .ref s), (1, .int x)] [] h _
  refine zh zJ_314 (i := (1, 1, 0, 0)) rfl rfl (k' := 1) (lo' := [(0, .ref s), (1, .int x)]) (st' := [.int x]) (h' := h) rfl ?_
  refine zh zJ_314 (i := (2, 0, 0, 0)) rfl rfl (k' := 2) (lo' := [(0, .ref s), (1, .int x)]) (st' := [.ref s, .int x]) (h' := h) rfl ?_
  refine zh_alen zJ_314 (a := 0) (b := 0) (z := 0) rfl (k' := 3) rfl he ?_
  refine zh_icmp zJ_314 (a := 8) (b := 1) (z := 0) rfl (fun hc1 => ?_) (fun hc1 => ?_)
  · refine zh zJ_314 (i := (1, 1, 0, 0)) rfl rfl (k' := 9) (lo' := [(0, .ref s), (1, .int x)]) (st' := [.int x]) (h' := h) rfl ?_
    refine zha zJ_314 (i := (47, 0, 0, 0)) rfl rfl (k' := 10) (lo' := [(0, .ref s), (1, .int x)]) (st' := [.ref h.length]) (h' := h ++ [.inl (0, (X, .inl (fun _ => 0)))]) (x := 1) (y := X) (by
      show zo_newa sx d 0 0 0 9 _ [.int x] h = _
      unfold zo_newa
      dsimp only
      rw [znat hx]
      exact if_pos ⟨by rw [Int32.lt_iff_toInt_lt, hx, show (0 : Int32).toInt = 0 from rfl]; omega, by omega, hB, by omega⟩) ?_
    refine zh zJ_314 (i := (5, 2, 0, 0)) rfl rfl (k' := 11) (lo' := [(2, .ref h.length), (0, .ref s), (1, .int x)]) (st' := []) (h' := (h ++ [.inl (0, (X, .inl (fun _ => 0)))])) rfl ?_
    refine zh zJ_314 (i := (2, 0, 0, 0)) rfl rfl (k' := 12) (lo' := [(2, .ref h.length), (0, .ref s), (1, .int x)]) (st' := [.ref s]) (h' := (h ++ [.inl (0, (X, .inl (fun _ => 0)))])) rfl ?_
    refine zh zJ_314 (i := (0, 0, 0, 0)) rfl rfl (k' := 13) (lo' := [(2, .ref h.length), (0, .ref s), (1, .int x)]) (st' := [.int (Int32.ofInt (0)), .ref s]) (h' := (h ++ [.inl (0, (X, .inl (fun _ => 0)))])) rfl ?_
    refine zh zJ_314 (i := (2, 2, 0, 0)) rfl rfl (k' := 14) (lo' := [(2, .ref h.length), (0, .ref s), (1, .int x)]) (st' := [.ref h.length, .int (Int32.ofInt (0)), .ref s]) (h' := (h ++ [.inl (0, (X, .inl (fun _ => 0)))])) rfl ?_
    refine zh zJ_314 (i := (0, 0, 0, 0)) rfl rfl (k' := 15) (lo' := [(2, .ref h.length), (0, .ref s), (1, .int x)]) (st' := [.int (Int32.ofInt (0)), .ref h.length, .int (Int32.ofInt (0)), .ref s]) (h' := (h ++ [.inl (0, (X, .inl (fun _ => 0)))])) rfl ?_
    refine zh zJ_314 (i := (2, 0, 0, 0)) rfl rfl (k' := 16) (lo' := [(2, .ref h.length), (0, .ref s), (1, .int x)]) (st' := [.ref s, .int (Int32.ofInt (0)), .ref h.length, .int (Int32.ofInt (0)), .ref s]) (h' := (h ++ [.inl (0, (X, .inl (fun _ => 0)))])) rfl ?_
    refine zh_alen zJ_314 (a := 0) (b := 0) (z := 0) rfl (k' := 17) rfl (zapp_lt he) ?_
    refine zh zJ_314 (i := (1, 1, 0, 0)) rfl rfl (k' := 18) (lo' := [(2, .ref h.length), (0, .ref s), (1, .int x)]) (st' := [.int x, .int (Int32.ofNat n), .int (Int32.ofInt (0)), .ref h.length, .int (Int32.ofInt (0)), .ref s]) (h' := (h ++ [.inl (0, (X, .inl (fun _ => 0)))])) rfl ?_
    have hmn : (if x < Int32.ofNat n then x else Int32.ofNat n) = x := (by
      by_cases hq : x < Int32.ofNat n
      · exact if_pos hq
      · rw [if_neg hq]
        rw [Int32.lt_iff_toInt_lt, hx, zofNat (by omega)] at hq
        exact Int32.toInt_inj.mp (by rw [hx, zofNat (by omega)]; omega))
    refine zh zJ_314 (i := (67, 0, 0, 0)) rfl rfl (k' := 19) (lo' := [(2, .ref h.length), (0, .ref s), (1, .int x)]) (st' := [.int x, .int (Int32.ofInt (0)), .ref h.length, .int (Int32.ofInt (0)), .ref s]) (h' := (h ++ [.inl (0, (X, .inl (fun _ => 0)))])) (by
      show zo_min sx d 0 0 0 18 _ [.int x, .int (Int32.ofNat n), .int (Int32.ofInt (0)), .ref h.length, .int (Int32.ofInt (0)), .ref s] _ = _
      unfold zo_min
      dsimp only
      rw [if_pos ⟨by omega, Nat.le_of_ble_eq_true rfl⟩, hmn]) ?_
    refine zh zJ_314 (i := (61, 0, 0, 0)) rfl rfl (k' := 20) (lo' := [(2, .ref h.length), (0, .ref s), (1, .int x)]) (st' := []) (h' := (h ++ [.inl (0, (X, .inl (va_cpy f (fun _ => 0) 0 0 X)))])) (by
      show zo_acopy sx d 0 0 0 19 _ [.int x, .int (Int32.ofInt (0)), .ref h.length, .int (Int32.ofInt (0)), .ref s] _ = _
      unfold zo_acopy
      dsimp only
      rw [zapp_lt he, zapp_at]
      rw [znat hx, show (Int32.ofInt (0)).toNatClampNeg = 0 from rfl]
      refine Eq.trans (if_pos ⟨by omega, Nat.zero_le _, by decide, by decide, by rw [Int32.lt_iff_toInt_lt, hx, show (0 : Int32).toInt = 0 from rfl]; omega, by omega, by omega⟩) ?_
      rw [zapp_set]) ?_
    refine zh zJ_314 (i := (2, 2, 0, 0)) rfl rfl (k' := 21) (lo' := [(2, .ref h.length), (0, .ref s), (1, .int x)]) (st' := [.ref h.length]) (h' := (h ++ [.inl (0, (X, .inl (va_cpy f (fun _ => 0) 0 0 X)))])) rfl ?_
    refine zh_aret zJ_314 (a := 0) (b := 0) (z := 0) rfl ?_
    refine ⟨_, rfl, rfl, fun i hi => ?_, Nat.zero_add _, Nat.zero_add _⟩
    unfold va_cpy
    rw [if_pos ⟨Nat.zero_le _, by omega⟩, Nat.sub_zero, Nat.zero_add]
  · have en : X = n := (by
      by_cases e : X = n
      · exact e
      · exact absurd (zcmp_ne.mpr (by rw [hx, zofNat (by omega)]; omega)) hc1)
    subst en
    refine zh zJ_314 (i := (2, 0, 0, 0)) rfl rfl (k' := 5) (lo' := [(0, .ref s), (1, .int x)]) (st' := [.ref s]) (h' := h) rfl ?_
    refine zha zJ_314 (i := (70, 0, 0, 0)) rfl rfl (k' := 6) (lo' := [(0, .ref s), (1, .int x)]) (st' := [.ref h.length]) (h' := h ++ [.inl (0, (X, .inl f))]) (x := 1) (y := X) (by
      show zo_clone sx d 0 0 0 5 _ [.ref s] h = _
      unfold zo_clone
      dsimp only
      rw [he]
      exact if_pos ⟨by omega, Nat.zero_le _, hB⟩) ?_
    refine zh zJ_314 (i := (71, 0, 0, 0)) rfl rfl (k' := 7) (lo' := [(0, .ref s), (1, .int x)]) (st' := [.ref h.length]) (h' := h ++ [.inl (0, (X, .inl f))]) (by
      show zo_cast sx d 0 0 0 6 _ [.ref h.length] (h ++ [.inl (0, (X, .inl f))]) = _
      unfold zo_cast
      dsimp only
      rw [zapp_at]
      rfl) ?_
    refine zh_aret zJ_314 (a := 0) (b := 0) (z := 0) rfl ?_
    exact ⟨f, rfl, rfl, fun i hi => rfl, Nat.zero_add _, Nat.zero_add _⟩
theorem zh_copy {sx : zX} {d j k k' : Nat} {lo : zL} {rest : List Value} {h : zH} {Ψ : zO → zH → Nat → Nat → Prop} {M : zMi} {cs : List zI} {hs : List zHd} {z : Int} {s n X : Nat} {f : Nat → Int32} {x : Int32} (J : zJ3 j M cs hs) (hi : cs[k]? = some (55, 314, 2, z)) (hk : k + 1 = k') (hd : 7 ≤ d) (he : h[s]? = some (.inl (0, (n, .inl f)))) (hn : n ≤ 400) (hx : x.toInt = (X : Int)) (hX : X ≤ n) (hB : h.length < zB) (hz : z_cat rest ≤ 8) (kk : ∀ g : Nat → Int32, (∀ i, i < X → g i = f i) → z_ok sx d j k' lo (.ref h.length :: rest) (h ++ [.inl (0, (X, .inl g))]) (fun o h' a b => Ψ o h' (a + 1) (b + X))) : z_ok sx d j k lo (.int x :: .ref s :: rest) h Ψ := by
  refine z_ok.call J.1 J.2.1 J.2.2 hi (z_fin_no (show (55 : Nat) ≠ 50 ∧ (55 : Nat) ≠ 51 ∧ (55 : Nat) ≠ 52 ∧ (55 : Nat) ≠ 53 ∧ (55 : Nat) ≠ 62 by decide)) (zcal55 (xs := [.int x, .ref s]) (rest := rest) (by omega) rfl rfl hz (M' := z_m314) rfl (Nat.le_of_ble_eq_true rfl)) (z_ok.imp (zS_314 (d := d - 1) (by omega) he hn hx hX hB) (fun o h' a b q => ?_))
  obtain ⟨g, rfl, rfl, hg, rfl, rfl⟩ := q
  rw [← hk] at kk
  exact kk g hg
theorem zJ_41 : zJ3 41 z_m41 z_c41 z_h41 := ⟨rfl, rfl, rfl⟩
theorem zsx_at {h L : zH} {r : Nat} {o : zE} (hr : r < h.length) : (h.set r o ++ L)[r]? = some o := by
  rw [List.getElem?_append_left (by rw [List.length_set]; exact hr), List.getElem?_set_self hr]
theorem zsx_set {h L : zH} {r : Nat} {o o' : zE} (hr : r < h.length) : (h.set r o ++ L).set r o' = h.set r o' ++ L := by
  rw [List.set_append_left _ _ (by rw [List.length_set]; exact hr), List.set_set]
theorem zsx_ne {h L : zH} {r s : Nat} {o e : zE} (hs : r ≠ s) (he : h[s]? = some e) : (h.set r o ++ L)[s]? = some e := by
  refine zapp_lt ?_
  rw [List.getElem?_set_ne hs]
  exact he
theorem zsx_len {h L : zH} {r : Nat} {o : zE} : (h.set r o ++ L).length = h.length + L.length := by
  rw [List.length_append, List.length_set]
set_option maxRecDepth 100000 in
theorem zS_41 {sx : zX} {d r s2 s3 s4 s5 X : Nat} {h : zH} {f2 f3 f4 : Nat → Int32} {x : Int32} (hd : 8 ≤ d) (hr : r < h.length) (n2 : r ≠ s2) (n3 : r ≠ s3) (n4 : r ≠ s4) (e2 : h[s2]? = some (.inl (0, (12, .inl f2)))) (e3 : h[s3]? = some (.inl (0, (12, .inl f3)))) (e4 : h[s4]? = some (.inl (0, (12, .inl f4)))) (hx : x.toInt = (X : Int)) (hX : X ≤ 12) (hB : h.length + 4 ≤ zB) : z_ok sx d 41 0 (lv_args 0 [.ref r, .int x, .ref s2, .ref s3, .ref s4, .ref s5]) [] (h.set r (.inr (2, [.int 0, .null, .null, .null, .null, .null])) ++ []) (fun o h' a b => ∃ g1 g2 g3 : Nat → Int32, o = .inl none ∧ h' = (h.set r (.inr (2, [.int x, .ref (h.length + 1), .ref (h.length + 2), .ref (h.length + 3), .ref s5, .ref h.length])) ++ [.inl (0, (32, .inl (fun _ => 0))), .inl (0, (X, .inl g1)), .inl (0, (X, .inl g2)), .inl (0, (X, .inl g3))]) ∧ (∀ i, i < X → g1 i = f2 i) ∧ (∀ i, i < X → g2 i = f3 i) ∧ (∀ i, i < X → g3 i = f4 i) ∧ a = 4 ∧ b = 32 + 3 * X) := by
  show z_ok sx d 41 0 [(0, .ref r), (1, .int x), (2, .ref s2), (3, .ref s3), (4, .ref s4), (5, .ref s5)] [] (h.set r (.inr (2, [.int 0, .null, .null, .null, .null, .null])) ++ []) _
  refine zh zJ_41 (i := (2, 0, 0, 0)) rfl rfl (k' := 1) (lo' := [(0, .ref r), (1, .int x), (2, .ref s2), (3, .ref s3), (4, .ref s4), (5, .ref s5)]) (st' := [.ref r]) (h' := (h.set r (.inr (2, [.int 0, .null, .null, .null, .null, .null])) ++ [])) rfl ?_
  refine zh_oinit zJ_41 (a := 0) (b := 0) (z := 0) rfl (k' := 2) rfl (by omega) (Nat.zero_le _) ?_
  refine zh zJ_41 (i := (2, 0, 0, 0)) rfl rfl (k' := 3) (lo' := [(0, .ref r), (1, .int x), (2, .ref s2), (3, .ref s3), (4, .ref s4), (5, .ref s5)]) (st' := [.ref r]) (h' := (h.set r (.inr (2, [.int 0, .null, .null, .null, .null, .null])) ++ [])) rfl ?_
  refine zh zJ_41 (i := (0, 0, 0, 32)) rfl rfl (k' := 4) (lo' := [(0, .ref r), (1, .int x), (2, .ref s2), (3, .ref s3), (4, .ref s4), (5, .ref s5)]) (st' := [.int (Int32.ofInt (32)), .ref r]) (h' := (h.set r (.inr (2, [.int 0, .null, .null, .null, .null, .null])) ++ [])) rfl ?_
  refine zha zJ_41 (i := (47, 0, 0, 0)) rfl rfl (k' := 5) (lo' := [(0, .ref r), (1, .int x), (2, .ref s2), (3, .ref s3), (4, .ref s4), (5, .ref s5)]) (st' := [.ref h.length, .ref r]) (h' := (h.set r (.inr (2, [.int 0, .null, .null, .null, .null, .null])) ++ [.inl (0, (32, .inl (fun _ => 0)))])) (x := 1) (y := 32) (by
      show zo_newa sx d 0 0 0 4 _ [.int (Int32.ofInt (32)), .ref r] _ = _
      unfold zo_newa
      dsimp only
      rw [if_pos ⟨by decide, by decide, by rw [zsx_len]; simp only [List.length_nil]; omega, by omega⟩, zsx_len, List.append_nil]
      rfl) ?_
  refine zh_put zJ_41 (b := 5) (c := 2) (z := 2) rfl (k' := 6) rfl (zsx_at hr) (by simp only [List.length_cons, List.length_nil]; omega) rfl ?_
  rw [zsx_set hr]
  show z_ok sx d 41 6 [(0, .ref r), (1, .int x), (2, .ref s2), (3, .ref s3), (4, .ref s4), (5, .ref s5)] [] (h.set r (.inr (2, [.int 0, .null, .null, .null, .null, .ref h.length])) ++ [.inl (0, (32, .inl (fun _ => 0)))]) _
  refine zh zJ_41 (i := (2, 0, 0, 0)) rfl rfl (k' := 7) (lo' := [(0, .ref r), (1, .int x), (2, .ref s2), (3, .ref s3), (4, .ref s4), (5, .ref s5)]) (st' := [.ref r]) (h' := (h.set r (.inr (2, [.int 0, .null, .null, .null, .null, .ref h.length])) ++ [.inl (0, (32, .inl (fun _ => 0)))])) rfl ?_
  refine zh zJ_41 (i := (1, 1, 0, 0)) rfl rfl (k' := 8) (lo' := [(0, .ref r), (1, .int x), (2, .ref s2), (3, .ref s3), (4, .ref s4), (5, .ref s5)]) (st' := [.int x, .ref r]) (h' := (h.set r (.inr (2, [.int 0, .null, .null, .null, .null, .ref h.length])) ++ [.inl (0, (32, .inl (fun _ => 0)))])) rfl ?_
  refine zh_put zJ_41 (b := 0) (c := 2) (z := 0) rfl (k' := 9) rfl (zsx_at hr) (by simp only [List.length_cons, List.length_nil]; omega) rfl ?_
  rw [zsx_set hr]
  show z_ok sx d 41 9 [(0, .ref r), (1, .int x), (2, .ref s2), (3, .ref s3), (4, .ref s4), (5, .ref s5)] [] (h.set r (.inr (2, [.int x, .null, .null, .null, .null, .ref h.length])) ++ [.inl (0, (32, .inl (fun _ => 0)))]) _
  refine zh zJ_41 (i := (2, 0, 0, 0)) rfl rfl (k' := 10) (lo' := [(0, .ref r), (1, .int x), (2, .ref s2), (3, .ref s3), (4, .ref s4), (5, .ref s5)]) (st' := [.ref r]) (h' := (h.set r (.inr (2, [.int x, .null, .null, .null, .null, .ref h.length])) ++ [.inl (0, (32, .inl (fun _ => 0)))])) rfl ?_
  refine zh zJ_41 (i := (2, 2, 0, 0)) rfl rfl (k' := 11) (lo' := [(0, .ref r), (1, .int x), (2, .ref s2), (3, .ref s3), (4, .ref s4), (5, .ref s5)]) (st' := [.ref s2, .ref r]) (h' := (h.set r (.inr (2, [.int x, .null, .null, .null, .null, .ref h.length])) ++ [.inl (0, (32, .inl (fun _ => 0)))])) rfl ?_
  refine zh zJ_41 (i := (1, 1, 0, 0)) rfl rfl (k' := 12) (lo' := [(0, .ref r), (1, .int x), (2, .ref s2), (3, .ref s3), (4, .ref s4), (5, .ref s5)]) (st' := [.int x, .ref s2, .ref r]) (h' := (h.set r (.inr (2, [.int x, .null, .null, .null, .null, .ref h.length])) ++ [.inl (0, (32, .inl (fun _ => 0)))])) rfl ?_
  refine zh_copy zJ_41 (z := 0) rfl (k' := 13) rfl (by omega) (zsx_ne n2 e2) (by omega) hx (by omega) (by rw [zsx_len]; simp only [List.length_cons, List.length_nil]; omega) (Nat.le_of_ble_eq_true rfl) (fun g1 hg1 => ?_)
  rw [zsx_len, List.append_assoc]
  show z_ok sx d 41 13 [(0, .ref r), (1, .int x), (2, .ref s2), (3, .ref s3), (4, .ref s4), (5, .ref s5)] [.ref (h.length + 1), .ref r] (h.set r (.inr (2, [.int x, .null, .null, .null, .null, .ref h.length])) ++ [.inl (0, (32, .inl (fun _ => 0))), .inl (0, (X, .inl g1))]) _
  refine zh_put zJ_41 (b := 1) (c := 2) (z := 2) rfl (k' := 14) rfl (zsx_at hr) (by simp only [List.length_cons, List.length_nil]; omega) rfl ?_
  rw [zsx_set hr]
  show z_ok sx d 41 14 [(0, .ref r), (1, .int x), (2, .ref s2), (3, .ref s3), (4, .ref s4), (5, .ref s5)] [] (h.set r (.inr (2, [.int x, .ref (h.length + 1), .null, .null, .null, .ref h.length])) ++ [.inl (0, (32, .inl (fun _ => 0))), .inl (0, (X, .inl g1))]) _
  refine zh zJ_41 (i := (2, 0, 0, 0)) rfl rfl (k' := 15) (lo' := [(0, .ref r), (1, .int x), (2, .ref s2), (3, .ref s3), (4, .ref s4), (5, .ref s5)]) (st' := [.ref r]) (h' := (h.set r (.inr (2, [.int x, .ref (h.length + 1), .null, .null, .null, .ref h.length])) ++ [.inl (0, (32, .inl (fun _ => 0))), .inl (0, (X, .inl g1))])) rfl ?_
  refine zh zJ_41 (i := (2, 3, 0, 0)) rfl rfl (k' := 16) (lo' := [(0, .ref r), (1, .int x), (2, .ref s2), (3, .ref s3), (4, .ref s4), (5, .ref s5)]) (st' := [.ref s3, .ref r]) (h' := (h.set r (.inr (2, [.int x, .ref (h.length + 1), .null, .null, .null, .ref h.length])) ++ [.inl (0, (32, .inl (fun _ => 0))), .inl (0, (X, .inl g1))])) rfl ?_
  refine zh zJ_41 (i := (1, 1, 0, 0)) rfl rfl (k' := 17) (lo' := [(0, .ref r), (1, .int x), (2, .ref s2), (3, .ref s3), (4, .ref s4), (5, .ref s5)]) (st' := [.int x, .ref s3, .ref r]) (h' := (h.set r (.inr (2, [.int x, .ref (h.length + 1), .null, .null, .null, .ref h.length])) ++ [.inl (0, (32, .inl (fun _ => 0))), .inl (0, (X, .inl g1))])) rfl ?_
  refine zh_copy zJ_41 (z := 0) rfl (k' := 18) rfl (by omega) (zsx_ne n3 e3) (by omega) hx (by omega) (by rw [zsx_len]; simp only [List.length_cons, List.length_nil]; omega) (Nat.le_of_ble_eq_true rfl) (fun g2 hg2 => ?_)
  rw [zsx_len, List.append_assoc]
  show z_ok sx d 41 18 [(0, .ref r), (1, .int x), (2, .ref s2), (3, .ref s3), (4, .ref s4), (5, .ref s5)] [.ref (h.length + 2), .ref r] (h.set r (.inr (2, [.int x, .ref (h.length + 1), .null, .null, .null, .ref h.length])) ++ [.inl (0, (32, .inl (fun _ => 0))), .inl (0, (X, .inl g1)), .inl (0, (X, .inl g2))]) _
  refine zh_put zJ_41 (b := 2) (c := 2) (z := 2) rfl (k' := 19) rfl (zsx_at hr) (by simp only [List.length_cons, List.length_nil]; omega) rfl ?_
  rw [zsx_set hr]
  show z_ok sx d 41 19 [(0, .ref r), (1, .int x), (2, .ref s2), (3, .ref s3), (4, .ref s4), (5, .ref s5)] [] (h.set r (.inr (2, [.int x, .ref (h.length + 1), .ref (h.length + 2), .null, .null, .ref h.length])) ++ [.inl (0, (32, .inl (fun _ => 0))), .inl (0, (X, .inl g1)), .inl (0, (X, .inl g2))]) _
  refine zh zJ_41 (i := (2, 0, 0, 0)) rfl rfl (k' := 20) (lo' := [(0, .ref r), (1, .int x), (2, .ref s2), (3, .ref s3), (4, .ref s4), (5, .ref s5)]) (st' := [.ref r]) (h' := (h.set r (.inr (2, [.int x, .ref (h.length + 1), .ref (h.length + 2), .null, .null, .ref h.length])) ++ [.inl (0, (32, .inl (fun _ => 0))), .inl (0, (X, .inl g1)), .inl (0, (X, .inl g2))])) rfl ?_
  refine zh zJ_41 (i := (2, 4, 0, 0)) rfl rfl (k' := 21) (lo' := [(0, .ref r), (1, .int x), (2, .ref s2), (3, .ref s3), (4, .ref s4), (5, .ref s5)]) (st' := [.ref s4, .ref r]) (h' := (h.set r (.inr (2, [.int x, .ref (h.length + 1), .ref (h.length + 2), .null, .null, .ref h.length])) ++ [.inl (0, (32, .inl (fun _ => 0))), .inl (0, (X, .inl g1)), .inl (0, (X, .inl g2))])) rfl ?_
  refine zh zJ_41 (i := (1, 1, 0, 0)) rfl rfl (k' := 22) (lo' := [(0, .ref r), (1, .int x), (2, .ref s2), (3, .ref s3), (4, .ref s4), (5, .ref s5)]) (st' := [.int x, .ref s4, .ref r]) (h' := (h.set r (.inr (2, [.int x, .ref (h.length + 1), .ref (h.length + 2), .null, .null, .ref h.length])) ++ [.inl (0, (32, .inl (fun _ => 0))), .inl (0, (X, .inl g1)), .inl (0, (X, .inl g2))])) rfl ?_
  refine zh_copy zJ_41 (z := 0) rfl (k' := 23) rfl (by omega) (zsx_ne n4 e4) (by omega) hx (by omega) (by rw [zsx_len]; simp only [List.length_cons, List.length_nil]; omega) (Nat.le_of_ble_eq_true rfl) (fun g3 hg3 => ?_)
  rw [zsx_len, List.append_assoc]
  show z_ok sx d 41 23 [(0, .ref r), (1, .int x), (2, .ref s2), (3, .ref s3), (4, .ref s4), (5, .ref s5)] [.ref (h.length + 3), .ref r] (h.set r (.inr (2, [.int x, .ref (h.length + 1), .ref (h.length + 2), .null, .null, .ref h.length])) ++ [.inl (0, (32, .inl (fun _ => 0))), .inl (0, (X, .inl g1)), .inl (0, (X, .inl g2)), .inl (0, (X, .inl g3))]) _
  refine zh_put zJ_41 (b := 3) (c := 2) (z := 2) rfl (k' := 24) rfl (zsx_at hr) (by simp only [List.length_cons, List.length_nil]; omega) rfl ?_
  rw [zsx_set hr]
  show z_ok sx d 41 24 [(0, .ref r), (1, .int x), (2, .ref s2), (3, .ref s3), (4, .ref s4), (5, .ref s5)] [] (h.set r (.inr (2, [.int x, .ref (h.length + 1), .ref (h.length + 2), .ref (h.length + 3), .null, .ref h.length])) ++ [.inl (0, (32, .inl (fun _ => 0))), .inl (0, (X, .inl g1)), .inl (0, (X, .inl g2)), .inl (0, (X, .inl g3))]) _
  refine zh zJ_41 (i := (2, 0, 0, 0)) rfl rfl (k' := 25) (lo' := [(0, .ref r), (1, .int x), (2, .ref s2), (3, .ref s3), (4, .ref s4), (5, .ref s5)]) (st' := [.ref r]) (h' := (h.set r (.inr (2, [.int x, .ref (h.length + 1), .ref (h.length + 2), .ref (h.length + 3), .null, .ref h.length])) ++ [.inl (0, (32, .inl (fun _ => 0))), .inl (0, (X, .inl g1)), .inl (0, (X, .inl g2)), .inl (0, (X, .inl g3))])) rfl ?_
  refine zh zJ_41 (i := (2, 5, 0, 0)) rfl rfl (k' := 26) (lo' := [(0, .ref r), (1, .int x), (2, .ref s2), (3, .ref s3), (4, .ref s4), (5, .ref s5)]) (st' := [.ref s5, .ref r]) (h' := (h.set r (.inr (2, [.int x, .ref (h.length + 1), .ref (h.length + 2), .ref (h.length + 3), .null, .ref h.length])) ++ [.inl (0, (32, .inl (fun _ => 0))), .inl (0, (X, .inl g1)), .inl (0, (X, .inl g2)), .inl (0, (X, .inl g3))])) rfl ?_
  refine zh_put zJ_41 (b := 4) (c := 2) (z := 2) rfl (k' := 27) rfl (zsx_at hr) (by simp only [List.length_cons, List.length_nil]; omega) rfl ?_
  rw [zsx_set hr]
  show z_ok sx d 41 27 [(0, .ref r), (1, .int x), (2, .ref s2), (3, .ref s3), (4, .ref s4), (5, .ref s5)] [] (h.set r (.inr (2, [.int x, .ref (h.length + 1), .ref (h.length + 2), .ref (h.length + 3), .ref s5, .ref h.length])) ++ [.inl (0, (32, .inl (fun _ => 0))), .inl (0, (X, .inl g1)), .inl (0, (X, .inl g2)), .inl (0, (X, .inl g3))]) _
  refine zh_vret zJ_41 (a := 0) (b := 0) (z := 0) rfl ?_
  exact ⟨g1, g2, g3, rfl, rfl, hg1, hg2, hg3, by omega, by omega⟩
theorem zJ_48 : zJ3 48 z_m48 z_c48 z_h48 := ⟨rfl, rfl, rfl⟩
theorem zTY.app {tt : Nat → zTy} {ty : List Nat} {h : zH} (T : zTY tt ty h) {ts : List Nat} {es : zH} (hl : ts.length = es.length) (hb : (h ++ es).length ≤ zB) (hn : ∀ (i t : Nat) (e : zE), ts[i]? = some t → es[i]? = some e → z_sh (tt t) e ∧ ∀ (j : Nat) (v : Value), z_rd e j = some v → ∀ r ∈ (tt t).2.2.2, r.1 ≤ (j : Int) → (j : Int) ≤ r.2.1 → zG (ty ++ ts) r.2.2 v) : zTY tt (ty ++ ts) (h ++ es) := by
  refine ⟨by rw [List.length_append, List.length_append, T.1, hl], hb, fun a t e ht he => ?_⟩
  by_cases ha : a < h.length
  · rw [List.getElem?_append_left (by rw [T.1]; exact ha)] at ht
    rw [List.getElem?_append_left ha] at he
    obtain ⟨s, v⟩ := T.2.2 a t e ht he
    refine ⟨s, fun j w hw r hr r1 r2 => zG_ext (fun i t hi => ?_) (v j w hw r hr r1 r2)⟩
    rw [List.getElem?_append_left (List.getElem?_eq_some_iff.mp hi).1]
    exact hi
  · rw [List.getElem?_append_right (by rw [T.1]; omega), T.1] at ht
    rw [List.getElem?_append_right (by omega)] at he
    exact hn (a - h.length) t e ht he
theorem zExt.app {ty ts : List Nat} : zExt ty (ty ++ ts) := fun i t hi => by
  rw [List.getElem?_append_left (List.getElem?_eq_some_iff.mp hi).1]
  exact hi
theorem zFm.app {ms : List zMod} {ty : List Nat} {h es : zH} : zFm ms ty h (h ++ es) := ⟨by rw [List.length_append]; omega, fun a t e e' ht he he' i _ => by
  rw [zapp_lt he] at he'
  cases he'
  rfl⟩
theorem zE1.app {ty ts : List Nat} {h es : zH} (T : zTY z_tt ty h) (E : zE1 ty h) (hn : ∀ t ∈ ts, ¬ (20 ≤ t ∧ t ≤ 32)) : zE1 (ty ++ ts) (h ++ es) := by
  have key : ∀ a t : Nat, 20 ≤ t → t ≤ 32 → (ty ++ ts)[a]? = some t → ty[a]? = some t := fun a t h1 h2 ht => by
    by_cases ha : a < ty.length
    · rw [List.getElem?_append_left ha] at ht
      exact ht
    · rw [List.getElem?_append_right (by omega)] at ht
      exact absurd ⟨h1, h2⟩ (hn t (List.mem_of_getElem? ht))
  refine ⟨fun a b t h1 h2 ha hb => E.1 a b t h1 h2 (key a t h1 h2 ha) (key b t h1 h2 hb), fun a t n f ht hz he => ?_⟩
  have h9 : 20 ≤ t ∧ t ≤ 32 := by rcases hz with rfl | rfl | rfl <;> omega
  have ha := key a t h9.1 h9.2 ht
  have hl : a < h.length := by rw [← T.1]; exact (List.getElem?_eq_some_iff.mp ha).1
  rw [List.getElem?_append_left hl] at he
  exact E.2 a t n f ha hz he
theorem ztt_l {L : Nat} (h : L ≤ 12) : z_tt (100 + L) = (0, 2, 6, [(0, 0, (0, (L : Int), (L : Int))), (1, 2, (2, ((140 + L : Nat) : Int), ((140 + L : Nat) : Int))), (3, 3, (2, ((120 + L : Nat) : Int), ((120 + L : Nat) : Int))), (4, 4, (2, 1000, 1400)), (5, 5, (2, 34, 34))]) := by
  unfold z_tt
  rw [if_neg (by omega), if_pos (by omega), show 100 + L - 100 = L by omega, show 100 + L + 40 = 140 + L by omega, show 100 + L + 20 = 120 + L by omega]
theorem ztt_e {L : Nat} (h : L ≤ 12) : z_tt (120 + L) = (1, 0, L, [(0, ((120 + L : Nat) : Int) - 121, (0, 0, 400))]) := by
  unfold z_tt
  rw [if_neg (by omega), if_neg (by omega), if_pos (by omega), show 120 + L - 120 = L by omega]
theorem ztt_k {L : Nat} (h : L ≤ 12) : z_tt (140 + L) = (1, 0, L, [(0, ((140 + L : Nat) : Int) - 141, zFull)]) := by
  unfold z_tt
  rw [if_neg (by omega), if_neg (by omega), if_neg (by omega), if_pos (by omega), show 140 + L - 140 = L by omega]
theorem ztt_c {C : Nat} (h : C ≤ 400) : z_tt (1000 + C) = (1, 0, C, [(0, ((1000 + C : Nat) : Int) - 1001, zFull)]) := by
  unfold z_tt
  rw [if_neg (by omega), if_neg (by omega), if_neg (by omega), if_neg (by omega), if_pos (by omega), show 1000 + C - 1000 = C by omega]
/-- an array of any ints -/
theorem znew_full {ty : List Nat} {n : Nat} {lo hi : Int} {g : Nat → Int32} (T : zTy) (hT : T = (1, 0, n, [(lo, hi, zFull)])) : z_sh T (.inl (0, (n, .inl g))) ∧ ∀ (j : Nat) (v : Value), z_rd (.inl (0, (n, .inl g))) j = some v → ∀ r ∈ T.2.2.2, r.1 ≤ (j : Int) → (j : Int) ≤ r.2.1 → zG ty r.2.2 v := by
  subst hT
  refine ⟨rfl, fun j v hv r hr _ _ => ?_⟩
  rw [List.mem_singleton.mp hr]
  rw [z_rd0] at hv
  split at hv
  · cases hv; exact zFull_ok _
  · cases hv
set_option maxRecDepth 100000 in
theorem zS_48 {sx : zX} {d r : Nat} {ty : List Nat} {h : zH} (hd : 9 ≤ d) (T : zTY z_tt ty h) (E : zE1 ty h) (hr : ty[r]? = some 4) (hB : h.length + 6 ≤ zB) : z_ok sx d 48 0 (lv_args 0 [.ref r]) [] h (fun o h' a b => ∃ (ty' : List Nat) (L : Nat), o = .inl (some (.ref h.length)) ∧ zExt ty ty' ∧ zTY z_tt ty' h' ∧ zE1 ty' h' ∧ zFm [] ty h h' ∧ a ≤ 6 ∧ b ≤ 900 ∧ ty'[h.length]? = some (100 + L) ∧ L ≤ 12) := by
  show z_ok sx d 48 0 [(0, .ref r)] [] h _
  obtain ⟨fs, he, hl⟩ := zcell0 (c := 3) (n := 6) T hr rfl rfl rfl
  obtain ⟨s0, f0, t0⟩ := zfd2 (b := 0) (u := 5) T hr he (by omega) (by decide +kernel)
  obtain ⟨s1, f1, t1⟩ := zfd2 (b := 1) (u := 5) T hr he (by omega) (by decide +kernel)
  obtain ⟨s2, f2, t2⟩ := zfd2 (b := 2) (u := 6) T hr he (by omega) (by decide +kernel)
  obtain ⟨s3, f3, t3⟩ := zfd2 (b := 3) (u := 7) T hr he (by omega) (by decide +kernel)
  obtain ⟨x4, f4, l4, u4⟩ := zfd0 (b := 4) (lo := 0) (hi := 12) T hr he (by omega) (by decide +kernel)
  obtain ⟨x5, f5, l5, u5⟩ := zfd0 (b := 5) (lo := 0) (hi := 400) T hr he (by omega) (by decide +kernel)
  obtain ⟨a0, c0⟩ := zcell1 (n := 12) T t0 rfl rfl
  obtain ⟨a1, c1⟩ := zcell1 (n := 12) T t1 rfl rfl
  obtain ⟨a2, c2⟩ := zcell1 (n := 12) T t2 rfl rfl
  obtain ⟨a3, c3⟩ := zcell1 (n := 400) T t3 rfl rfl
  obtain ⟨L, eL⟩ : ∃ L : Nat, x4.toInt = (L : Int) := ⟨x4.toInt.toNat, by omega⟩
  obtain ⟨C, eC⟩ : ∃ C : Nat, x5.toInt = (C : Int) := ⟨x5.toInt.toNat, by omega⟩
  refine zha zJ_48 (i := (49, 2, 0, 0)) rfl rfl (k' := 1) (lo' := [(0, .ref r)]) (st' := [.ref h.length]) (h' := (h ++ [.inr (2, [.int 0, .null, .null, .null, .null, .null])])) (x := 1) (y := 6) (by
      show zo_new sx d 2 0 0 0 _ [] h = _
      unfold zo_new
      rw [if_pos (by omega)]
      rfl) ?_
  refine zh zJ_48 (i := (27, 0, 0, 0)) rfl rfl (k' := 2) (lo' := [(0, .ref r)]) (st' := [.ref h.length, .ref h.length]) (h' := (h ++ [.inr (2, [.int 0, .null, .null, .null, .null, .null])])) rfl ?_
  refine zh zJ_48 (i := (2, 0, 0, 0)) rfl rfl (k' := 3) (lo' := [(0, .ref r)]) (st' := [.ref r, .ref h.length, .ref h.length]) (h' := (h ++ [.inr (2, [.int 0, .null, .null, .null, .null, .null])])) rfl ?_
  refine zh_get zJ_48 (b := 4) (c := 3) (z := 0) rfl (k' := 4) rfl (zapp_lt he) f4 ?_
  refine zh zJ_48 (i := (2, 0, 0, 0)) rfl rfl (k' := 5) (lo' := [(0, .ref r)]) (st' := [.ref r, .int x4, .ref h.length, .ref h.length]) (h' := (h ++ [.inr (2, [.int 0, .null, .null, .null, .null, .null])])) rfl ?_
  refine zh_get zJ_48 (b := 0) (c := 3) (z := 0) rfl (k' := 6) rfl (zapp_lt he) f0 ?_
  refine zh zJ_48 (i := (2, 0, 0, 0)) rfl rfl (k' := 7) (lo' := [(0, .ref r)]) (st' := [.ref r, .ref s0, .int x4, .ref h.length, .ref h.length]) (h' := (h ++ [.inr (2, [.int 0, .null, .null, .null, .null, .null])])) rfl ?_
  refine zh_get zJ_48 (b := 1) (c := 3) (z := 0) rfl (k' := 8) rfl (zapp_lt he) f1 ?_
  refine zh zJ_48 (i := (2, 0, 0, 0)) rfl rfl (k' := 9) (lo' := [(0, .ref r)]) (st' := [.ref r, .ref s1, .ref s0, .int x4, .ref h.length, .ref h.length]) (h' := (h ++ [.inr (2, [.int 0, .null, .null, .null, .null, .null])])) rfl ?_
  refine zh_get zJ_48 (b := 2) (c := 3) (z := 0) rfl (k' := 10) rfl (zapp_lt he) f2 ?_
  refine zh zJ_48 (i := (2, 0, 0, 0)) rfl rfl (k' := 11) (lo' := [(0, .ref r)]) (st' := [.ref r, .ref s2, .ref s1, .ref s0, .int x4, .ref h.length, .ref h.length]) (h' := (h ++ [.inr (2, [.int 0, .null, .null, .null, .null, .null])])) rfl ?_
  refine zh_get zJ_48 (b := 3) (c := 3) (z := 0) rfl (k' := 12) rfl (zapp_lt he) f3 ?_
  refine zh zJ_48 (i := (2, 0, 0, 0)) rfl rfl (k' := 13) (lo' := [(0, .ref r)]) (st' := [.ref r, .ref s3, .ref s2, .ref s1, .ref s0, .int x4, .ref h.length, .ref h.length]) (h' := (h ++ [.inr (2, [.int 0, .null, .null, .null, .null, .null])])) rfl ?_
  refine zh_get zJ_48 (b := 5) (c := 3) (z := 0) rfl (k' := 14) rfl (zapp_lt he) f5 ?_
  refine zh_copy zJ_48 (z := 0) rfl (k' := 15) rfl (by omega) (zapp_lt c3) (by omega) eC (by omega) (by rw [List.length_append, List.length_singleton]; omega) (Nat.le_of_ble_eq_true rfl) (fun gc hgc => ?_)
  rw [List.length_append, List.length_singleton, List.append_assoc]
  show z_ok sx d 48 15 [(0, .ref r)] [.ref (h.length + 1), .ref s2, .ref s1, .ref s0, .int x4, .ref h.length, .ref h.length] (h ++ [.inr (2, [.int 0, .null, .null, .null, .null, .null]), .inl (0, (C, .inl gc))]) _
  generalize hX : h ++ ([.inr (2, [.int 0, .null, .null, .null, .null, .null]), .inl (0, (C, .inl gc))] : zH) = hc
  have lc : hc.length = h.length + 2 := by rw [← hX, List.length_append]; rfl
  have hcr : hc.set h.length (.inr (2, [.int 0, .null, .null, .null, .null, .null])) ++ [] = hc := by
    rw [List.append_nil, ← hX, List.set_append_right _ _ (Nat.le_refl _), Nat.sub_self]
    rfl
  have k0 : hc[s0]? = some (.inl (0, (12, .inl a0))) := by rw [← hX]; exact zapp_lt c0
  have k1 : hc[s1]? = some (.inl (0, (12, .inl a1))) := by rw [← hX]; exact zapp_lt c1
  have k2 : hc[s2]? = some (.inl (0, (12, .inl a2))) := by rw [← hX]; exact zapp_lt c2
  have m0 := (List.getElem?_eq_some_iff.mp c0).1
  have m1 := (List.getElem?_eq_some_iff.mp c1).1
  have m2 := (List.getElem?_eq_some_iff.mp c2).1
  have R := zS_41 (sx := sx) (d := d - 1) (h := hc) (r := h.length) (s5 := h.length + 1) (x := x4) (X := L) (by omega) (by omega) (by omega) (by omega) (by omega) k0 k1 k2 eL (by omega) (by omega)
  rw [hcr] at R
  refine z_ok.call zJ_48.1 zJ_48.2.1 zJ_48.2.2 (i := (56, 41, 5, 0)) rfl (z_fin_no (by decide)) (zcal56 (xs := [.ref (h.length + 1), .ref s2, .ref s1, .ref s0, .int x4]) (rest := [.ref h.length]) (by omega) rfl rfl (Nat.le_of_ble_eq_true rfl) (M' := z_m41) rfl (Nat.le_of_ble_eq_true rfl)) (z_ok.imp R (fun o h' a b q => ?_))
  obtain ⟨g1, g2, g3, rfl, rfl, q1, q2, q3, rfl, rfl⟩ := q
  have ef : hc.set h.length (.inr (2, [.int x4, .ref (hc.length + 1), .ref (hc.length + 2), .ref (hc.length + 3), .ref (h.length + 1), .ref hc.length])) ++ [.inl (0, (32, .inl (fun _ => 0))), .inl (0, (L, .inl g1)), .inl (0, (L, .inl g2)), .inl (0, (L, .inl g3))] = h ++ [.inr (2, [.int x4, .ref (h.length + 3), .ref (h.length + 4), .ref (h.length + 5), .ref (h.length + 1), .ref (h.length + 2)]), .inl (0, (C, .inl gc)), .inl (0, (32, .inl (fun _ => 0))), .inl (0, (L, .inl g1)), .inl (0, (L, .inl g2)), .inl (0, (L, .inl g3))] := by
    rw [lc, ← hX, List.set_append_right _ _ (Nat.le_refl _), Nat.sub_self, List.append_assoc]
    rfl
  rw [ef]
  show z_ok sx d 48 16 [(0, .ref r)] [.ref h.length] (h ++ [.inr (2, [.int x4, .ref (h.length + 3), .ref (h.length + 4), .ref (h.length + 5), .ref (h.length + 1), .ref (h.length + 2)]), .inl (0, (C, .inl gc)), .inl (0, (32, .inl (fun _ => 0))), .inl (0, (L, .inl g1)), .inl (0, (L, .inl g2)), .inl (0, (L, .inl g3))]) _
  refine zh_aret zJ_48 (a := 0) (b := 0) (z := 0) rfl ?_
  have tn : ∀ (i t : Nat), ([100 + L, 1000 + C, 34, 140 + L, 140 + L, 120 + L] : List Nat)[i]? = some t → (ty ++ [100 + L, 1000 + C, 34, 140 + L, 140 + L, 120 + L])[h.length + i]? = some t := fun i t hi => by
    rw [List.getElem?_append_right (by rw [T.1]; omega), T.1, show h.length + i - h.length = i by omega]
    exact hi
  have TT : zTY z_tt (ty ++ [100 + L, 1000 + C, 34, 140 + L, 140 + L, 120 + L]) (h ++ [.inr (2, [.int x4, .ref (h.length + 3), .ref (h.length + 4), .ref (h.length + 5), .ref (h.length + 1), .ref (h.length + 2)]), .inl (0, (C, .inl gc)), .inl (0, (32, .inl (fun _ => 0))), .inl (0, (L, .inl g1)), .inl (0, (L, .inl g2)), .inl (0, (L, .inl g3))]) := by
    refine T.app rfl (by rw [List.length_append]; show h.length + 6 ≤ zB; omega) (fun i t e hi he9 => ?_)
    match i, hi, he9 with
    | 0, hi, he9 =>
      cases hi
      cases he9
      rw [ztt_l (by omega)]
      refine ⟨⟨rfl, rfl⟩, fun j v hv rg hr9 r1 r2 => ?_⟩
      have hv : ([.int x4, .ref (h.length + 3), .ref (h.length + 4), .ref (h.length + 5), .ref (h.length + 1), .ref (h.length + 2)] : List Value)[j]? = some v := hv
      rcases List.mem_cons.mp hr9 with rfl | hr9
      · have ej : j = 0 := by have r2 : (j : Int) ≤ 0 := r2; omega
        subst ej
        cases hv
        exact ⟨x4, rfl, by show (L : Int) ≤ _; omega, by show _ ≤ (L : Int); omega⟩
      rcases List.mem_cons.mp hr9 with rfl | hr9
      · have ej : j = 1 ∨ j = 2 := by have r1 : (1 : Int) ≤ j := r1; have r2 : (j : Int) ≤ 2 := r2; omega
        rcases ej with rfl | rfl
        · cases hv
          exact ⟨_, 140 + L, rfl, tn 3 _ rfl, Int.le_refl _, Int.le_refl _⟩
        · cases hv
          exact ⟨_, 140 + L, rfl, tn 4 _ rfl, Int.le_refl _, Int.le_refl _⟩
      rcases List.mem_cons.mp hr9 with rfl | hr9
      · have ej : j = 3 := by have r1 : (3 : Int) ≤ j := r1; have r2 : (j : Int) ≤ 3 := r2; omega
        subst ej
        cases hv
        exact ⟨_, 120 + L, rfl, tn 5 _ rfl, Int.le_refl _, Int.le_refl _⟩
      rcases List.mem_cons.mp hr9 with rfl | hr9
      · have ej : j = 4 := by have r1 : (4 : Int) ≤ j := r1; have r2 : (j : Int) ≤ 4 := r2; omega
        subst ej
        cases hv
        exact ⟨_, 1000 + C, rfl, tn 1 _ rfl, by show (1000 : Int) ≤ _; omega, by show _ ≤ (1400 : Int); omega⟩
      · rw [List.mem_singleton.mp hr9] at r1 r2 ⊢
        have ej : j = 5 := by have r1 : (5 : Int) ≤ j := r1; have r2 : (j : Int) ≤ 5 := r2; omega
        subst ej
        cases hv
        exact ⟨_, 34, rfl, tn 2 _ rfl, Int.le_refl _, Int.le_refl _⟩
    | 1, hi, he9 => cases hi; cases he9; exact znew_full _ (ztt_c (by omega))
    | 2, hi, he9 => cases hi; cases he9; exact znew_full _ rfl
    | 3, hi, he9 => cases hi; cases he9; exact znew_full _ (ztt_k (by omega))
    | 4, hi, he9 => cases hi; cases he9; exact znew_full _ (ztt_k (by omega))
    | 5, hi, he9 =>
      cases hi
      cases he9
      rw [ztt_e (by omega)]
      refine ⟨rfl, fun j v hv rg hr9 r1 r2 => ?_⟩
      rw [List.mem_singleton.mp hr9]
      rw [z_rd0] at hv
      split at hv
      · next hj =>
        cases hv
        rw [q3 j hj]
        have := zel (lo := 0) (hi := 11) (A := (0, 0, 400)) T t2 c2 (i := j) (by omega) (by decide +kernel) (by omega) (by omega)
        obtain ⟨y, e, y1, y2⟩ := this
        exact ⟨y, e, y1, y2⟩
      · cases hv
    | n + 6, hi, he9 => cases hi
  exact ⟨_, L, rfl, zExt.app, TT, E.app T (by intro t ht; simp only [List.mem_cons, List.not_mem_nil, or_false] at ht; omega), zFm.app, by omega, by omega, tn 0 _ rfl, by omega⟩
end
