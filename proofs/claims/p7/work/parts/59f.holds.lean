/-! holdsLine and sumOf of the reference -/
theorem zh_iinc {sx : zX} {d j k : Nat} {lo : zL} {st : List Value} {h : zH} {Ψ : zO → zH → Nat → Nat → Prop} {M : zMi} {cs : List zI} {hs : List zHd} {a b k' : Nat} {z : Int} {x : Int32} (J : zJ3 j M cs hs) (hi : cs[k]? = some (7, a, b, z)) (hk : k + 1 = k') (hg : z_get lo a = some (.int x)) (kk : z_ok sx d j k' (z_set1 lo a (.int (x + Int32.ofInt z))) st h Ψ) : z_ok sx d j k lo st h Ψ := by
  refine zh J hi rfl ?_ kk
  show zo_iinc sx d a b z k lo st h = _
  unfold zo_iinc
  rw [hg, ← hk]
theorem zkeepA {ms : List zMod} {ty : List Nat} {h h' : zH} {w t n : Nat} {f f' : Nat → Int32} (F : zFm ms ty h h') (ht : ty[w]? = some t) (he : h[w]? = some (.inl (0, (n, .inl f)))) (he' : h'[w]? = some (.inl (0, (n, .inl f')))) (hno : ∀ i, ¬ zIn ms t i) : ∀ i, i < n → f' i = f i := fun i hi => by
  have := F.2 w t _ _ ht he he' i (hno i)
  rw [z_rd0, z_rd0, if_pos hi, if_pos hi] at this
  exact Value.int.inj (Option.some.inj this)
theorem zcvl {lo : zL} {h : zH} {a : Nat} {u v : Int} {x : Int32} (hg : z_get lo a = some (.int x)) : zcv2 lo h (1, a, u, v) = x.toInt := by
  unfold zcv2
  rw [if_pos (show 1 ≤ 2 by decide), hg]
noncomputable def zC_H : zCt := (237, [(2, 20, 20), (0, 0, 11), (0, -1, 9), zFull], [(0, 0, 1)], [], [(28, 0, 399)], 20, (0, 0, 0, 0), [])
noncomputable def zH32 (a b c d : Int) : zCut := (32, [(0, (2, 20, 20)), (1, (0, 0, 11)), (2, (0, -1, 9)), (3, zFull), (4, (0, c, d)), (5, (0, 389, 433)), (6, (0, 0, 399)), (7, (0, a, b))], [], [])
noncomputable def zH145 (δ : Int) : zTg := (145, [(0, (2, 20, 20)), (1, (0, 0, 11)), (2, (0, -1, 9)), (3, zFull), (4, (0, 0, 400)), (5, (0, 389, 433)), (6, (0, 0, 399))], [], [((1, 4, 0, 0), (1, 4, 0, 0), δ), ((1, 5, 0, 0), (1, 5, 0, 0), 0), ((1, 6, 0, 0), (1, 6, 0, 0), 0)])
noncomputable def zH147 : zCut := (147, [(0, (2, 20, 20)), (4, (0, 0, 400))], [], [])
theorem zK_H1 : zxs z_tt zCtl zCand 239 zC_H (zstop [zH145 1]) (zht z_tt zC_H (zH32 (-2147483648) 8 0 399) [zH145 1]) 4000 (zc_st zC_H (zH32 (-2147483648) 8 0 399)) = true := by decide +kernel
theorem zK_H2 : zxs z_tt zCtl zCand 239 zC_H (zstop [zH145 0]) (zht z_tt zC_H (zH32 12 12 1 400) [zH145 0]) 4000 (zc_st zC_H (zH32 12 12 1 400)) = true := by decide +kernel
theorem zK_H3 : zxs z_tt zCtl zCand 239 zC_H (zstop [zH145 (-1)]) (zht z_tt zC_H (zH32 9 11 2 400) [zH145 (-1)]) 4000 (zc_st zC_H (zH32 9 11 2 400)) = true := by decide +kernel
theorem zK_H4 : zxs z_tt zCtl zCand 239 zC_H (zstop [zH145 (-1)]) (zht z_tt zC_H (zH32 13 2147483647 2 400) [zH145 (-1)]) 4000 (zc_st zC_H (zH32 13 2147483647 2 400)) = true := by decide +kernel
theorem zK_H5 : zxs z_tt zCtl zCand 239 zC_H (zstop []) (zht z_tt zC_H zH147 []) 4000 (zc_st zC_H zH147) = true := by decide +kernel
theorem zJ_237 : zJ3 237 z_m237 z_c237 z_h237 := ⟨rfl, rfl, rfl⟩
set_option maxRecDepth 100000 in
theorem zLp_H {sx : zX} {d0 : Nat} {ty0 : List Nat} {h0 : zH} {w l : Nat} {fw : Nat → Int32} (hd : 20 ≤ d0) (H : ∀ c, c < 239 → ∀ c', zCtl[c]? = some c' → zVd z_tt zE1 c') (hw0 : ty0[w]? = some 21) (hf0 : h0[w]? = some (.inl (0, (2086, .inl fw)))) (hl : l ≤ 11) : ∀ (n : Nat) (ty : List Nat) (lo : zL) (h : zH) (a i top : Nat) (xl xf xh x4 x5 x6 : Int32), zExt ty0 ty → zTY z_tt ty h → zE1 ty h → zFm (zcM zC_H) ty0 h0 h → z_get lo 0 = some (.ref a) → ty[a]? = some 20 → z_get lo 1 = some (.int xl) → (0 ≤ xl.toInt ∧ xl.toInt ≤ 11) → z_get lo 2 = some (.int xf) → (-1 ≤ xf.toInt ∧ xf.toInt ≤ 9) → z_get lo 3 = some (.int xh) → z_get lo 4 = some (.int x4) → x4.toInt = (top : Int) → top ≤ 400 → z_get lo 5 = some (.int x5) → x5.toInt = ((389 + 4 * l : Nat) : Int) → z_get lo 6 = some (.int x6) → x6.toInt = (i : Int) → n = ((fw (392 + 4 * l)).toInt - (i : Int)).toNat → zPx fw n i top → zGo sx d0 (zPo z_tt zE1 zC_H ty0 h0) [(237, 15, lo, [])] h 0 0 := by
  intro n
  induction n using Nat.strongRecOn with
  | ind n ih =>
  intro ty lo h a i top xl xf xh x4 x5 x6 X T E F g0 ha g1 b1 g2 b2 g3 g4 e4 b4 g5 e5 g6 e6 hn hp
  have hstb : zStable z_tt zE1 (zcM zC_H) := zE1_stable (by decide +kernel)
  have e147 : zGo sx d0 (zPo z_tt zE1 zC_H ty0 h0) [(237, 147, lo, [])] h 0 0 :=
    zseg2 (ct := zC_H) (c0 := zH147) (gs := []) (vl := [.ref a, .int x4]) (vm := []) hstb hd H zK_H5 X T E F ⟨g0, ⟨a, 20, rfl, ha, Int.le_refl _, Int.le_refl _⟩, g4, ⟨x4, rfl, by omega, by omega⟩, trivial⟩ trivial (fun g hg => absurd hg List.not_mem_nil)
  have z147 : z_ok sx (d0 - 0) 237 147 lo [] h (fun o h' a b => zKx sx d0 (zPo z_tt zE1 zC_H ty0 h0) [] o h' (a + 0) (b + 0)) := e147
  show z_ok sx (d0 - 0) 237 15 lo [] h (fun o h' a b => zKx sx d0 (zPo z_tt zE1 zC_H ty0 h0) [] o h' (a + 0) (b + 0))
  obtain ⟨fs, he, hfl⟩ := zcell0 (c := 9) (n := 23) T ha rfl rfl rfl
  obtain ⟨w', hw1, hw2⟩ := zfd2 (b := 1) (u := 21) T ha he (by omega) (by decide +kernel)
  have ew : w' = w := E.1 w' w 21 (by omega) (by omega) hw2 (X w 21 hw0)
  subst ew
  obtain ⟨f, hf⟩ := zcell1 (n := 2086) T hw2 rfl rfl
  have hfw := zkeepA F hw0 hf0 hf (fun i ⟨m, hm, m1, _⟩ => by
    rw [List.mem_singleton.mp hm] at m1
    exact absurd m1 (by decide))
  have ex : (x5 + Int32.ofInt (3)).toInt = ((392 + 4 * l : Nat) : Int) := by
    rw [Int32.toInt_add, e5, show (Int32.ofInt (3)).toInt = 3 from rfl, z_bm (by omega) (by omega)]
    omega
  refine zh_ild zJ_237 (a := 6) (b := 0) (z := 0) rfl (k' := 16) rfl g6 ?_
  refine zh_ald zJ_237 (a := 0) (b := 0) (z := 0) rfl (k' := 17) rfl g0 ?_
  refine zh_get zJ_237 (b := 1) (c := 9) (z := 0) rfl (k' := 18) rfl he hw1 ?_
  refine zh_ild zJ_237 (a := 5) (b := 0) (z := 0) rfl (k' := 19) rfl g5 ?_
  refine zh zJ_237 (i := (0, 0, 0, 3)) rfl rfl (k' := 20) (lo' := lo) (st' := [.int (Int32.ofInt (3)), .int x5, .ref w', .int x6]) (h' := h) rfl ?_
  refine zh zJ_237 (i := (8, 0, 0, 0)) rfl rfl (k' := 21) (lo' := lo) (st' := [.int (x5 + Int32.ofInt (3)), .ref w', .int x6]) (h' := h) rfl ?_
  refine zh_iald zJ_237 (z := 0) rfl (k' := 22) rfl hf (by omega) (by omega) ?_
  rw [znat ex, hfw (392 + 4 * l) (by omega)]
  refine zh_icmp zJ_237 (a := 147) (b := 3) (z := 0) rfl (fun _ => z147) (fun hc => ?_)
  have hlt : (i : Int) < (fw (392 + 4 * l)).toInt := by
    have : ¬ (fw (392 + 4 * l)).toInt ≤ x6.toInt := fun e => hc (zcmp_ge.mpr e)
    omega
  obtain ⟨n', rfl⟩ : ∃ n', n = n' + 1 := ⟨n - 1, by omega⟩
  have hi4 : i < 400 := hp.1
  have hp2 := hp.2
  have e2 : (Int32.ofInt (2) * x6).toInt = 2 * (i : Int) := by
    rw [Int32.toInt_mul, e6, show (Int32.ofInt (2)).toInt = 2 from rfl]
    exact z_bm (by omega) (by omega)
  have ex2 : (Int32.ofInt (437) + Int32.ofInt (2) * x6).toInt = ((437 + 2 * i : Nat) : Int) := by
    rw [Int32.toInt_add, e2, show (Int32.ofInt (437)).toInt = 437 from rfl, z_bm (by omega) (by omega)]
    omega
  refine zh_ald zJ_237 (a := 0) (b := 0) (z := 0) rfl (k' := 24) rfl g0 ?_
  refine zh_get zJ_237 (b := 1) (c := 9) (z := 0) rfl (k' := 25) rfl he hw1 ?_
  refine zh zJ_237 (i := (0, 0, 0, 437)) rfl rfl (k' := 26) (lo' := lo) (st' := [.int (Int32.ofInt (437)), .ref w']) (h' := h) rfl ?_
  refine zh zJ_237 (i := (0, 0, 0, 2)) rfl rfl (k' := 27) (lo' := lo) (st' := [.int (Int32.ofInt (2)), .int (Int32.ofInt (437)), .ref w']) (h' := h) rfl ?_
  refine zh_ild zJ_237 (a := 6) (b := 0) (z := 0) rfl (k' := 28) rfl g6 ?_
  refine zh zJ_237 (i := (10, 0, 0, 0)) rfl rfl (k' := 29) (lo' := lo) (st' := [.int (Int32.ofInt (2) * x6), .int (Int32.ofInt (437)), .ref w']) (h' := h) rfl ?_
  refine zh zJ_237 (i := (8, 0, 0, 0)) rfl rfl (k' := 30) (lo' := lo) (st' := [.int (Int32.ofInt (437) + Int32.ofInt (2) * x6), .ref w']) (h' := h) rfl ?_
  refine zh_iald zJ_237 (z := 0) rfl (k' := 31) rfl hf (by omega) (by omega) ?_
  rw [znat ex2, hfw (437 + 2 * i) (by omega)]
  generalize hs : fw (437 + 2 * i) = s at hp2 ⊢
  refine zh_ist zJ_237 (a := 7) (b := 0) (z := 0) rfl (k' := 32) rfl ?_
  have k0 := zget_set1_ne (a := 7) (v := .int s) g0 (by decide) rfl
  have k1 := zget_set1_ne (a := 7) (v := .int s) g1 (by decide) rfl
  have k2 := zget_set1_ne (a := 7) (v := .int s) g2 (by decide) rfl
  have k3 := zget_set1_ne (a := 7) (v := .int s) g3 (by decide) rfl
  have k4 := zget_set1_ne (a := 7) (v := .int s) g4 (by decide) rfl
  have k5 := zget_set1_ne (a := 7) (v := .int s) g5 (by decide) rfl
  have k6 := zget_set1_ne (a := 7) (v := .int s) g6 (by decide) rfl
  have post : ∀ (δ : Int) (top' : Nat), (top' : Int) = (top : Int) + δ → top' ≤ 400 → zPx fw n' (i + 1) top' → ∀ g ∈ [zH145 δ], ∀ (ty' : List Nat) (lo' : zL) (h' : zH) (vl' vm' : List Value), zExt ty0 ty' → zTY z_tt ty' h' → zE1 ty' h' → zFm (zcM zC_H) ty0 h0 h' → zVl ty' lo' g.2.1 vl' → zVm ty' lo' h' g.2.2.1 vm' → (∀ q ∈ g.2.2.2, zcv2 lo' h' q.1 = zcv2 (z_set1 lo 7 (.int s)) h q.2.1 + q.2.2) → zGo sx d0 (zPo z_tt zE1 zC_H ty0 h0) [(zcJ zC_H, g.1, lo', [])] h' 0 0 := by
    intro δ top' et bt hpt g hg ty' lo' h' vl' vm' X' T' E' F' H1' _ hq
    have eg := List.mem_singleton.mp hg
    subst eg
    match vl', H1' with
    | [u0, u1, u2, u3, u4, u5, u6], H1' =>
    obtain ⟨m0, ⟨a9, t9, rfl, ha9, t91, t92⟩, m1, ⟨y1, rfl, p1, q1⟩, m2, ⟨y2, rfl, p2, q2⟩, m3, ⟨y3, rfl, -, -⟩, m4, ⟨y4, rfl, p4, q4⟩, m5, ⟨y5, rfl, p5, q5⟩, m6, ⟨y6, rfl, p6, q6⟩, -⟩ := H1'
    dsimp only at m0 m1 m2 m3 m4 m5 m6
    have et9 : t9 = 20 := by omega
    subst et9
    have d4 := hq ((1, 4, 0, 0), (1, 4, 0, 0), δ) (List.Mem.head _)
    have d5 := hq ((1, 5, 0, 0), (1, 5, 0, 0), 0) (List.Mem.tail _ (List.Mem.head _))
    have d6 := hq ((1, 6, 0, 0), (1, 6, 0, 0), 0) (List.Mem.tail _ (List.Mem.tail _ (List.Mem.head _)))
    dsimp only at d4 d5 d6
    rw [zcvl m4, zcvl k4] at d4
    rw [zcvl m5, zcvl k5] at d5
    rw [zcvl m6, zcvl k6] at d6
    show z_ok sx (d0 - 0) 237 145 lo' [] h' (fun o h' a b => zKx sx d0 (zPo z_tt zE1 zC_H ty0 h0) [] o h' (a + 0) (b + 0))
    refine zh_iinc zJ_237 (a := 6) (b := 0) (z := 1) rfl (k' := 146) rfl m6 ?_
    refine zh zJ_237 (i := (30, 15, 0, 0)) rfl rfl (k' := 15) (lo' := z_set1 lo' 6 (.int (y6 + Int32.ofInt 1))) (st' := []) (h' := h') rfl ?_
    exact ih n' (by omega) ty' _ h' a9 (i + 1) top' y1 y2 y3 y4 y5 _ X' T' E' F' (zget_set1_ne m0 (by decide) rfl) ha9 (zget_set1_ne m1 (by decide) rfl) ⟨p1, q1⟩ (zget_set1_ne m2 (by decide) rfl) ⟨p2, q2⟩ (zget_set1_ne m3 (by decide) rfl) (zget_set1_ne m4 (by decide) rfl) (by omega) bt (zget_set1_ne m5 (by decide) rfl) (by omega) zget_self (zinc (by omega) (by omega)) (by omega) hpt
  have hv : ∀ p q r u : Int, p ≤ s.toInt → s.toInt ≤ q → r ≤ (top : Int) → (top : Int) ≤ u → zVl ty (z_set1 lo 7 (.int s)) (zH32 p q r u).2.1 [.ref a, .int xl, .int xf, .int xh, .int x4, .int x5, .int x6, .int s] := fun p q r u h1 h2 h3 h4 => ⟨k0, ⟨_, 20, rfl, ha, Int.le_refl _, Int.le_refl _⟩, k1, ⟨xl, rfl, b1.1, b1.2⟩, k2, ⟨xf, rfl, b2.1, b2.2⟩, k3, zFull_ok _, k4, ⟨x4, rfl, by omega, by omega⟩, k5, ⟨x5, rfl, by omega, by omega⟩, k6, ⟨x6, rfl, by omega, by omega⟩, zget_self, ⟨s, rfl, h1, h2⟩, trivial⟩
  have sb := zb32 s
  by_cases c1 : s.toInt ≤ 8
  · rw [if_pos c1] at hp2
    exact zseg2 (ct := zC_H) (c0 := zH32 (-2147483648) 8 0 399) (gs := [zH145 1]) (vm := []) hstb hd H zK_H1 X T E F (hv _ _ _ _ sb.1 c1 (by omega) (by omega)) trivial (post 1 (top + 1) (by omega) (by omega) hp2.2)
  · rw [if_neg c1] at hp2
    by_cases c2 : s.toInt = 12
    · rw [if_pos c2] at hp2
      exact zseg2 (ct := zC_H) (c0 := zH32 12 12 1 400) (gs := [zH145 0]) (vm := []) hstb hd H zK_H2 X T E F (hv _ _ _ _ (by omega) (by omega) (by omega) (by omega)) trivial (post 0 top (by omega) b4 hp2.2)
    · rw [if_neg c2] at hp2
      by_cases c3 : s.toInt ≤ 11
      · exact zseg2 (ct := zC_H) (c0 := zH32 9 11 2 400) (gs := [zH145 (-1)]) (vm := []) hstb hd H zK_H3 X T E F (hv _ _ _ _ (by omega) (by omega) (by omega) (by omega)) trivial (post (-1) (top - 1) (by omega) (by omega) hp2.2)
      · exact zseg2 (ct := zC_H) (c0 := zH32 13 2147483647 2 400) (gs := [zH145 (-1)]) (vm := []) hstb hd H zK_H4 X T E F (hv _ _ _ _ (by omega) (by omega) (by omega) (by omega)) trivial (post (-1) (top - 1) (by omega) (by omega) hp2.2)
