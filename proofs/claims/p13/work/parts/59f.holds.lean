section
/-! holdsLine and sumOf of the reference -/
theorem zh_iinc {sx : zX} {d j k : Nat} {lo : zL} {st : List Value} {h : zH} {Ψ : zO → zH → Nat → Nat → Prop} {M : zMi} {cs : List zI} {hs : List zHd} {a b k' : Nat} {z : Int} {x : Int32} (J : zJ3 j M cs hs) (hi : cs[k]? = some (7, a, b, z)) (hk : k + 1 = k') (hg : z_get lo a = some (.int x)) (kk : z_ok sx d j k' (z_set1 lo a (.int (x + Int32.ofInt z))) st h Ψ) : z_ok sx d j k lo st h Ψ := by
  refine zh J hi rfl ?_ kk
  show zo_iinc sx d a b z k lo st h = _
  unfold zo_iinc
  rw [hg, ← hk]
theorem zkeepA {ms : List zMod} {ty : List Nat} {h h' : zH} {w t n : Nat} {f f' : Nat → Int32} (F : zFm ms ty h h') (ht : ty[w]? = some t) (he : h[w]? = some (.inl (0, (n, .inl f)))) (he' : h'[w]? = some (.inl (0, (n, .inl f')))) (hno : ∀ i, ¬ zIn ms t i) : ∀ i, i < n → f' i = f i := fun i hi => by
  have := F.2 w t _ _ ht he he' i (hno i)
  rw [z_rd0, z_rd0, if_pos hi, if_pos hi] at this
  exact Value.int.inj (Option.some.inj this)
theorem zcvl {lo : zL} {h : zH} {a : Nat} {u v : Int} {x : Int32} (hg : z_get lo a = some (.int x)) : zcv2 lo h (1, a, u, v) = x.toInt := by
  unfold zcv2
  rw [if_pos (show 1 ≤ 2 by decide), hg]
noncomputable def zC_H : zCt := (237, [(2, 20, 20), (0, 0, 11), (0, -1, 9), zFull], [(0, 0, 1)], [], [(28, 0, 399)], 20, (0, 0, 0, 0), [])
noncomputable def zH32 (a b c d : Int) : zCut := (32, [(0, (2, 20, 20)), (1, (0, 0, 11)), (2, (0, -1, 9)), (3, zFull), (4, (0, c, d)), (5, (0, 389, 433)), (6, (0, 0, 399)), (7, (0, a, b))], [], [])
noncomputable def zH145 (δ : Int) : zTg := (145, [(0, (2, 20, 20)), (1, (0, 0, 11)), (2, (0, -1, 9)), (3, zFull), (4, (0, 0, 400)), (5, (0, 389, 433)), (6, (0, 0, 399))], [], [((1, 4, 0, 0), (1, 4, 0, 0), δ), ((1, 5, 0, 0), (1, 5, 0, 0), 0), ((1, 6, 0, 0), (1, 6, 0, 0), 0)])
noncomputable def zH147 : zCut := (147, [(0, (2, 20, 20)), (4, (0, 0, 400))], [], [])
theorem zK_H1 : zxs z_tt zCtl zCand 239 zC_H (zstop [zH145 1]) (zht z_tt zC_H (zH32 (-2147483648) 8 0 399) [zH145 1]) 4000 (zc_st zC_H (zH32 (-2147483648) 8 0 399)) = true := by decide +kernel
theorem zK_H2 : zxs z_tt zCtl zCand 239 zC_H (zstop [zH145 0]) (zht z_tt zC_H (zH32 12 12 1 400) [zH145 0]) 4000 (zc_st zC_H (zH32 12 12 1 400)) = true := by decide +kernel
theorem zK_H3 : zxs z_tt zCtl zCand 239 zC_H (zstop [zH145 (-1)]) (zht z_tt zC_H (zH32 9 11 2 400) [zH145 (-1)]) 4000 (zc_st zC_H (zH32 9 11 2 400)) = true := by decide +kernel
theorem zK_H4 : zxs z_tt zCtl zCand 239 zC_H (zstop [zH145 (-1)]) (zht z_tt zC_H (zH32 13 2147483647 2 400) [zH145 (-1)]) 4000 (zc_st zC_H (zH32 13 2147483647 2 400)) = true := by decide +kernel
theorem zK_H5 : zxs z_tt zCtl zCand 239 zC_H (zstop []) (zht z_tt zC_H zH147 []) 4000 (zc_st zC_H zH147) = true := by decide +kernel
theorem zJ_237 : zJ3 237 z_m237 z_c237 z_h237 := ⟨rfl, rfl, rfl⟩
set_option maxRecDepth 100000 in
theorem zLp_H {sx : zX} {d0 : Nat} {ty0 : List Nat} {h0 : zH} {w l : Nat} {fw : Nat → Int32} (hd : 20 ≤ d0) (H : ∀ c, c < 239 → ∀ c', zCtl[c]? = some c' → zVd z_tt zE1 c') (hw0 : ty0[w]? = some 21) (hf0 : h0[w]? = some (.inl (0, (2086, .inl fw)))) (hl : l ≤ 11) : ∀ (n : Nat) (ty : List Nat) (lo : zL) (h : zH) (a i top : Nat) (xl xf xh x4 x5 x6 : Int32), zExt ty0 ty → zTY z_tt ty h → zE1 ty h → zFm (zcM zC_H) ty0 h0 h → z_get lo 0 = some (.ref a) → ty[a]? = some 20 → z_get lo 1 = some (.int xl) → (0 ≤ xl.toInt ∧ xl.toInt ≤ 11) → z_get lo 2 = some (.int xf) → (-1 ≤ xf.toInt ∧ xf.toInt ≤ 9) → z_get lo 3 = some (.int xh) → z_get lo 4 = some (.int x4) → x4.toInt = (top : Int) → top ≤ 400 → z_get lo 5 = some (.int x5) → x5.toInt = ((389 + 4 * l : Nat) : Int) → z_get lo 6 = some (.int x6) → x6.toInt = (i : Int) → n = ((fw (392 + 4 * l)).toInt - (i : Int)).toNat → zPx fw n i top → zGo sx d0 (zPo z_tt zE1 zC_H ty0 h0) [(237, 15, lo, [])] h 0 0 := by
  intro n
  induction n using Nat.strongRecOn with
  | ind n ih =>
  intro ty lo h a i top xl xf xh x4 x5 x6 X T E F g0 ha g1 b1 g2 b2 g3 g4 e4 b4 g5 e5 g6 e6 hn hp
  have hstb : zStable z_tt zE1 (zcM zC_H) := zE1_stable (by decide +kernel)
  have e147 : zGo sx d0 (zPo z_tt zE1 zC_H ty0 h0) [(237, 147, lo, [])] h 0 0 :=
    zseg2 (ct := zC_H) (c0 := zH147) (gs := []) (vl := [.ref a, .int x4]) (vm := []) hstb hd H zK_H5 X T E F ⟨g0, ⟨a, 20, rfl, ha, Int.le_refl _, Int.le_refl _⟩, g4, ⟨x4, rfl, by omega, by omega⟩, trivial⟩ trivial (fun g hg => absurd hg List.not_mem_nil)
  have z147 : z_ok sx (d0 - 0) 237 147 lo [] h (fun o h' a b => zKx sx d0 (zPo z_tt zE1 zC_H ty0 h0) [] o h' (a + 0) (b + 0)) := e147
  show z_ok sx (d0 - 0) 237 15 lo [] h (fun o h' a b => zKx sx d0 (zPo z_tt zE1 zC_H ty0 h0) [] o h' (a + 0) (b + 0))
  obtain ⟨fs, he, hfl⟩ := zcell0 (c := 9) (n := 23) T ha rfl rfl rfl
  obtain ⟨w', hw1, hw2⟩ := zfd2 (b := 1) (u := 21) T ha he (by omega) (by decide +kernel)
  have ew : w' = w := E.1 w' w 21 (by omega) (by omega) hw2 (X w 21 hw0)
  subst ew
  obtain ⟨f, hf⟩ := zcell1 (n := 2086) T hw2 rfl rfl
  have hfw := zkeepA F hw0 hf0 hf (fun i ⟨m, hm, m1, _⟩ => by
    rw [List.mem_singleton.mp hm] at m1
    exact absurd m1 (by decide))
  have ex : (x5 + Int32.ofInt (3)).toInt = ((392 + 4 * l : Nat) : Int) := by
    rw [Int32.toInt_add, e5, show (Int32.ofInt (3)).toInt = 3 from rfl, z_bm (by omega) (by omega)]
    omega
  refine zh_ild zJ_237 (a := 6) (b := 0) (z := 0) rfl (k' := 16) rfl g6 ?_
  refine zh_ald zJ_237 (a := 0) (b := 0) (z := 0) rfl (k' := 17) rfl g0 ?_
  refine zh_get zJ_237 (b := 1) (c := 9) (z := 0) rfl (k' := 18) rfl he hw1 ?_
  refine zh_ild zJ_237 (a := 5) (b := 0) (z := 0) rfl (k' := 19) rfl g5 ?_
  refine zh zJ_237 (i := (0, 0, 0, 3)) rfl rfl (k' := 20) (lo' := lo) (st' := [.int (Int32.ofInt (3)), .int x5, .ref w', .int x6]) (h' := h) rfl ?_
  refine zh zJ_237 (i := (8, 0, 0, 0)) rfl rfl (k' := 21) (lo' := lo) (st' := [.int (x5 + Int32.ofInt (3)), .ref w', .int x6]) (h' := h) rfl ?_
  refine zh_iald zJ_237 (z := 0) rfl (k' := 22) rfl hf (by omega) (by omega) ?_
  rw [znat ex, hfw (392 + 4 * l) (by omega)]
  refine zh_icmp zJ_237 (a := 147) (b := 3) (z := 0) rfl (fun _ => z147) (fun hc => ?_)
  have hlt : (i : Int) < (fw (392 + 4 * l)).toInt := by
    have : ¬ (fw (392 + 4 * l)).toInt ≤ x6.toInt := fun e => hc (zcmp_ge.mpr e)
    omega
  obtain ⟨n', rfl⟩ : ∃ n', n = n' + 1 := ⟨n - 1, by omega⟩
  have hi4 : i < 400 := hp.1
  have hp2 := hp.2
  have e2 : (Int32.ofInt (2) * x6).toInt = 2 * (i : Int) := by
    rw [Int32.toInt_mul, e6, show (Int32.ofInt (2)).toInt = 2 from rfl]
    exact z_bm (by omega) (by omega)
  have ex2 : (Int32.ofInt (437) + Int32.ofInt (2) * x6).toInt = ((437 + 2 * i : Nat) : Int) := by
    rw [Int32.toInt_add, e2, show (Int32.ofInt (437)).toInt = 437 from rfl, z_bm (by omega) (by omega)]
    omega
  refine zh_ald zJ_237 (a := 0) (b := 0) (z := 0) rfl (k' := 24) rfl g0 ?_
  refine zh_get zJ_237 (b := 1) (c := 9) (z := 0) rfl (k' := 25) rfl he hw1 ?_
  refine zh zJ_237 (i := (0, 0, 0, 437)) rfl rfl (k' := 26) (lo' := lo) (st' := [.int (Int32.ofInt (437)), .ref w']) (h' := h) rfl ?_
  refine zh zJ_237 (i := (0, 0, 0, 2)) rfl rfl (k' := 27) (lo' := lo) (st' := [.int (Int32.ofInt (2)), .int (Int32.ofInt (437)), .ref w']) (h' := h) rfl ?_
  refine zh_ild zJ_237 (a := 6) (b := 0) (z := 0) rfl (k' := 28) rfl g6 ?_
  refine zh zJ_237 (i := (10, 0, 0, 0)) rfl rfl (k' := 29) (lo' := lo) (st' := [.int (Int32.ofInt (2) * x6), .int (Int32.ofInt (437)), .ref w']) (h' := h) rfl ?_
  refine zh zJ_237 (i := (8, 0, 0, 0)) rfl rfl (k' := 30) (lo' := lo) (st' := [.int (Int32.ofInt (437) + Int32.ofInt (2) * x6), .ref w']) (h' := h) rfl ?_
  refine zh_iald zJ_237 (z := 0) rfl (k' := 31) rfl hf (by omega) (by omega) ?_
  rw [znat ex2, hfw (437 + 2 * i) (by omega)]
  generalize hs : fw (437 + 2 * i) = s at hp2 ⊢
  refine zh_ist zJ_237 (a := 7) (b := 0) (z := 0) rfl (k' := 32) rfl ?_
  have k0 := zget_set1_ne (a := 7) (v := .int s) g0 (by decide) rfl
  have k1 := zget_set1_ne (a := 7) (v := .int s) g1 (by decide) rfl
  have k2 := zget_set1_ne (a := 7) (v := .int s) g2 (by decide) rfl
  have k3 := zget_set1_ne (a := 7) (v := .int s) g3 (by decide) rfl
  have k4 := zget_set1_ne (a := 7) (v := .int s) g4 (by decide) rfl
  have k5 := zget_set1_ne (a := 7) (v := .int s) g5 (by decide) rfl
  have k6 := zget_set1_ne (a := 7) (v := .int s) g6 (by decide) rfl
  have post : ∀ (δ : Int) (top' : Nat), (top' : Int) = (top : Int) + δ → top' ≤ 400 → zPx fw n' (i + 1) top' → ∀ g ∈ [zH145 δ], ∀ (ty' : List Nat) (lo' : zL) (h' : zH) (vl' vm' : List Value), zExt ty0 ty' → zTY z_tt ty' h' → zE1 ty' h' → zFm (zcM zC_H) ty0 h0 h' → zVl ty' lo' g.2.1 vl' → zVm ty' lo' h' g.2.2.1 vm' → (∀ q ∈ g.2.2.2, zcv2 lo' h' q.1 = zcv2 (z_set1 lo 7 (.int s)) h q.2.1 + q.2.2) → zGo sx d0 (zPo z_tt zE1 zC_H ty0 h0) [(zcJ zC_H, g.1, lo', [])] h' 0 0 := by
    intro δ top' et bt hpt g hg ty' lo' h' vl' vm' X' T' E' F' H1' _ hq
    have eg := List.mem_singleton.mp hg
    subst eg
    match vl', H1' with
    | [u0, u1, u2, u3, u4, u5, u6], H1' =>
    obtain ⟨m0, ⟨a9, t9, rfl, ha9, t91, t92⟩, m1, ⟨y1, rfl, p1, q1⟩, m2, ⟨y2, rfl, p2, q2⟩, m3, ⟨y3, rfl, -, -⟩, m4, ⟨y4, rfl, p4, q4⟩, m5, ⟨y5, rfl, p5, q5⟩, m6, ⟨y6, rfl, p6, q6⟩, -⟩ := H1'
    dsimp only at m0 m1 m2 m3 m4 m5 m6
    have et9 : t9 = 20 := by omega
    subst et9
    have d4 := hq ((1, 4, 0, 0), (1, 4, 0, 0), δ) (List.Mem.head _)
    have d5 := hq ((1, 5, 0, 0), (1, 5, 0, 0), 0) (List.Mem.tail _ (List.Mem.head _))
    have d6 := hq ((1, 6, 0, 0), (1, 6, 0, 0), 0) (List.Mem.tail _ (List.Mem.tail _ (List.Mem.head _)))
    dsimp only at d4 d5 d6
    rw [zcvl m4, zcvl k4] at d4
    rw [zcvl m5, zcvl k5] at d5
    rw [zcvl m6, zcvl k6] at d6
    show z_ok sx (d0 - 0) 237 145 lo' [] h' (fun o h' a b => zKx sx d0 (zPo z_tt zE1 zC_H ty0 h0) [] o h' (a + 0) (b + 0))
    refine zh_iinc zJ_237 (a := 6) (b := 0) (z := 1) rfl (k' := 146) rfl m6 ?_
    refine zh zJ_237 (i := (30, 15, 0, 0)) rfl rfl (k' := 15) (lo' := z_set1 lo' 6 (.int (y6 + Int32.ofInt 1))) (st' := []) (h' := h') rfl ?_
    exact ih n' (by omega) ty' _ h' a9 (i + 1) top' y1 y2 y3 y4 y5 _ X' T' E' F' (zget_set1_ne m0 (by decide) rfl) ha9 (zget_set1_ne m1 (by decide) rfl) ⟨p1, q1⟩ (zget_set1_ne m2 (by decide) rfl) ⟨p2, q2⟩ (zget_set1_ne m3 (by decide) rfl) (zget_set1_ne m4 (by decide) rfl) (by omega) bt (zget_set1_ne m5 (by decide) rfl) (by omega) zget_self (zinc (by omega) (by omega)) (by omega) hpt
  have hv : ∀ p q r u : Int, p ≤ s.toInt → s.toInt ≤ q → r ≤ (top : Int) → (top : Int) ≤ u → zVl ty (z_set1 lo 7 (.int s)) (zH32 p q r u).2.1 [.ref a, .int xl, .int xf, .int xh, .int x4, .int x5, .int x6, .int s] := fun p q r u h1 h2 h3 h4 => ⟨k0, ⟨_, 20, rfl, ha, Int.le_refl _, Int.le_refl _⟩, k1, ⟨xl, rfl, b1.1, b1.2⟩, k2, ⟨xf, rfl, b2.1, b2.2⟩, k3, zFull_ok _, k4, ⟨x4, rfl, by omega, by omega⟩, k5, ⟨x5, rfl, by omega, by omega⟩, k6, ⟨x6, rfl, by omega, by omega⟩, zget_self, ⟨s, rfl, h1, h2⟩, trivial⟩
  have sb := zb32 s
  by_cases c1 : s.toInt ≤ 8
  · rw [if_pos c1] at hp2
    exact zseg2 (ct := zC_H) (c0 := zH32 (-2147483648) 8 0 399) (gs := [zH145 1]) (vm := []) hstb hd H zK_H1 X T E F (hv _ _ _ _ sb.1 c1 (by omega) (by omega)) trivial (post 1 (top + 1) (by omega) (by omega) hp2.2)
  · rw [if_neg c1] at hp2
    by_cases c2 : s.toInt = 12
    · rw [if_pos c2] at hp2
      exact zseg2 (ct := zC_H) (c0 := zH32 12 12 1 400) (gs := [zH145 0]) (vm := []) hstb hd H zK_H2 X T E F (hv _ _ _ _ (by omega) (by omega) (by omega) (by omega)) trivial (post 0 top (by omega) b4 hp2.2)
    · rw [if_neg c2] at hp2
      by_cases c3 : s.toInt ≤ 11
      · exact zseg2 (ct := zC_H) (c0 := zH32 9 11 2 400) (gs := [zH145 (-1)]) (vm := []) hstb hd H zK_H3 X T E F (hv _ _ _ _ (by omega) (by omega) (by omega) (by omega)) trivial (post (-1) (top - 1) (by omega) (by omega) hp2.2)
      · exact zseg2 (ct := zC_H) (c0 := zH32 13 2147483647 2 400) (gs := [zH145 (-1)]) (vm := []) hstb hd H zK_H4 X T E F (hv _ _ _ _ (by omega) (by omega) (by omega) (by omega)) trivial (post (-1) (top - 1) (by omega) (by omega) hp2.2)
end
section
/-! holdsLine and sumOf of the reference; printed with wip/gen/gen_sum.py -/
set_option maxRecDepth 100000 in
theorem zR_237 {sx : zX} {d a w : Nat} {ty : List Nat} {h : zH} {fw : Nat → Int32} {xl xf xh : Int32} (hd : 20 ≤ d) (H : ∀ c, c < 239 → ∀ c', zCtl[c]? = some c' → zVd z_tt zE1 c') (T : zTY z_tt ty h) (E : zE1 ty h) (ha : ty[a]? = some 20) (hw2 : ty[w]? = some 21) (hf : h[w]? = some (.inl (0, (2086, .inl fw)))) (l1 : 0 ≤ xl.toInt) (l2 : xl.toInt < (fw 388).toInt) (f1 : -1 ≤ xf.toInt) (f2 : xf.toInt ≤ 9) : z_ok sx d 237 0 [(0, .ref a), (1, .int xl), (2, .int xf), (3, .int xh)] [] h (zPo z_tt zE1 zC_H ty h) := by
  obtain ⟨hL1, hL⟩ := E.2 w 21 2086 fw hw2 (Or.inl rfl) hf
  obtain ⟨hL2, hL3⟩ := hL xl.toInt.toNat (by omega)
  obtain ⟨fs, he, hl⟩ := zcell0 (c := 9) (n := 23) T ha rfl rfl rfl
  obtain ⟨w', hw1, hw3⟩ := zfd2 (b := 1) (u := 21) T ha he (by omega) (by decide +kernel)
  have ew : w' = w := E.1 w' w 21 (by omega) (by omega) hw3 hw2
  subst ew
  refine zh zJ_237 (i := (0, 0, 0, 0)) rfl rfl (k' := 1) (lo' := [(0, .ref a), (1, .int xl), (2, .int xf), (3, .int xh)]) (st' := [.int (Int32.ofInt (0))]) (h' := h) rfl ?_
  refine zh zJ_237 (i := (4, 4, 0, 0)) rfl rfl (k' := 2) (lo' := [(4, .int (Int32.ofInt (0))), (0, .ref a), (1, .int xl), (2, .int xf), (3, .int xh)]) (st' := []) (h' := h) rfl ?_
  refine zh zJ_237 (i := (0, 0, 0, 389)) rfl rfl (k' := 3) (lo' := [(4, .int (Int32.ofInt (0))), (0, .ref a), (1, .int xl), (2, .int xf), (3, .int xh)]) (st' := [.int (Int32.ofInt (389))]) (h' := h) rfl ?_
  refine zh zJ_237 (i := (0, 0, 0, 4)) rfl rfl (k' := 4) (lo' := [(4, .int (Int32.ofInt (0))), (0, .ref a), (1, .int xl), (2, .int xf), (3, .int xh)]) (st' := [.int (Int32.ofInt (4)), .int (Int32.ofInt (389))]) (h' := h) rfl ?_
  refine zh zJ_237 (i := (1, 1, 0, 0)) rfl rfl (k' := 5) (lo' := [(4, .int (Int32.ofInt (0))), (0, .ref a), (1, .int xl), (2, .int xf), (3, .int xh)]) (st' := [.int xl, .int (Int32.ofInt (4)), .int (Int32.ofInt (389))]) (h' := h) rfl ?_
  refine zh zJ_237 (i := (10, 0, 0, 0)) rfl rfl (k' := 6) (lo' := [(4, .int (Int32.ofInt (0))), (0, .ref a), (1, .int xl), (2, .int xf), (3, .int xh)]) (st' := [.int ((Int32.ofInt (4)) * xl), .int (Int32.ofInt (389))]) (h' := h) rfl ?_
  refine zh zJ_237 (i := (8, 0, 0, 0)) rfl rfl (k' := 7) (lo' := [(4, .int (Int32.ofInt (0))), (0, .ref a), (1, .int xl), (2, .int xf), (3, .int xh)]) (st' := [.int ((Int32.ofInt (389)) + ((Int32.ofInt (4)) * xl))]) (h' := h) rfl ?_
  refine zh zJ_237 (i := (4, 5, 0, 0)) rfl rfl (k' := 8) (lo' := [(5, .int ((Int32.ofInt (389)) + ((Int32.ofInt (4)) * xl))), (4, .int (Int32.ofInt (0))), (0, .ref a), (1, .int xl), (2, .int xf), (3, .int xh)]) (st' := []) (h' := h) rfl ?_
  refine zh zJ_237 (i := (2, 0, 0, 0)) rfl rfl (k' := 9) (lo' := [(5, .int ((Int32.ofInt (389)) + ((Int32.ofInt (4)) * xl))), (4, .int (Int32.ofInt (0))), (0, .ref a), (1, .int xl), (2, .int xf), (3, .int xh)]) (st' := [.ref a]) (h' := h) rfl ?_
  have e4 : (Int32.ofInt (4) * xl).toInt = 4 * xl.toInt := by
    rw [Int32.toInt_mul, show (Int32.ofInt (4)).toInt = 4 from rfl]
    exact z_bm (by omega) (by omega)
  have e5 : (Int32.ofInt (389) + Int32.ofInt (4) * xl).toInt = ((389 + 4 * xl.toInt.toNat : Nat) : Int) := by
    rw [Int32.toInt_add, e4, show (Int32.ofInt (389)).toInt = 389 from rfl, z_bm (by omega) (by omega)]
    omega
  have e6 : (Int32.ofInt (389) + Int32.ofInt (4) * xl + Int32.ofInt (2)).toInt = ((391 + 4 * xl.toInt.toNat : Nat) : Int) := by
    rw [Int32.toInt_add, e5, show (Int32.ofInt (2)).toInt = 2 from rfl, z_bm (by omega) (by omega)]
    omega
  refine zh_get zJ_237 (a := a) (b := 1) (c := 9) (z := 0) rfl (k' := 10) rfl he hw1 ?_
  refine zh zJ_237 (i := (1, 5, 0, 0)) rfl rfl (k' := 11) (lo' := [(5, .int ((Int32.ofInt (389)) + ((Int32.ofInt (4)) * xl))), (4, .int (Int32.ofInt (0))), (0, .ref a), (1, .int xl), (2, .int xf), (3, .int xh)]) (st' := [.int ((Int32.ofInt (389)) + ((Int32.ofInt (4)) * xl)), .ref w']) (h' := h) rfl ?_
  refine zh zJ_237 (i := (0, 0, 0, 2)) rfl rfl (k' := 12) (lo' := [(5, .int ((Int32.ofInt (389)) + ((Int32.ofInt (4)) * xl))), (4, .int (Int32.ofInt (0))), (0, .ref a), (1, .int xl), (2, .int xf), (3, .int xh)]) (st' := [.int (Int32.ofInt (2)), .int ((Int32.ofInt (389)) + ((Int32.ofInt (4)) * xl)), .ref w']) (h' := h) rfl ?_
  refine zh zJ_237 (i := (8, 0, 0, 0)) rfl rfl (k' := 13) (lo' := [(5, .int ((Int32.ofInt (389)) + ((Int32.ofInt (4)) * xl))), (4, .int (Int32.ofInt (0))), (0, .ref a), (1, .int xl), (2, .int xf), (3, .int xh)]) (st' := [.int (((Int32.ofInt (389)) + ((Int32.ofInt (4)) * xl)) + (Int32.ofInt (2))), .ref w']) (h' := h) rfl ?_
  refine zh_iald zJ_237 (z := 0) rfl (k' := 14) rfl hf (by omega) (by omega) ?_
  rw [znat e6]
  refine zh zJ_237 (i := (4, 6, 0, 0)) rfl rfl (k' := 15) (lo' := [(6, .int (fw (391 + 4 * xl.toInt.toNat))), (5, .int ((Int32.ofInt (389)) + ((Int32.ofInt (4)) * xl))), (4, .int (Int32.ofInt (0))), (0, .ref a), (1, .int xl), (2, .int xf), (3, .int xh)]) (st' := []) (h' := h) rfl ?_
  have hgo := zLp_H (sx := sx) (d0 := d) (ty0 := ty) (h0 := h) (w := w') (l := xl.toInt.toNat) (fw := fw) hd H hw3 hf (by omega) _ ty [(6, .int (fw (391 + 4 * xl.toInt.toNat))), (5, .int ((Int32.ofInt (389)) + ((Int32.ofInt (4)) * xl))), (4, .int (Int32.ofInt (0))), (0, .ref a), (1, .int xl), (2, .int xf), (3, .int xh)] h a (fw (391 + 4 * xl.toInt.toNat)).toInt.toNat 0 xl xf xh _ _ _ zExt.rf T E zFm.rf rfl ha rfl ⟨l1, by omega⟩ rfl ⟨f1, f2⟩ rfl rfl rfl (by omega) rfl e5 rfl (by omega) rfl (by
    have e9 : (((fw (391 + 4 * xl.toInt.toNat)).toInt.toNat : Nat) : Int) = (fw (391 + 4 * xl.toInt.toNat)).toInt := by omega
    rw [e9]
    exact hL3)
  refine z_ok.imp hgo (fun o h' x y q => ?_)
  have q : zPo z_tt zE1 zC_H ty h o h' (x + 0) (y + 0) := q
  exact q
end
section
/-! sumOf of the reference; printed with wip/gen/gen_sum3.py -/
theorem zJ_238 : zJ3 238 z_m238 z_c238 z_h238 := ⟨rfl, rfl, rfl⟩
set_option maxRecDepth 100000 in
theorem zLp_238 {sx : zX} {d a : Nat} {ty0 : List Nat} {h0 : zH} {k xf xh : Int32} (hd : 21 ≤ d) (H : ∀ c, c < 239 → ∀ c', zCtl[c]? = some c' → zVd z_tt zE1 c') (ha0 : ty0[a]? = some 20) (f1 : -1 ≤ xf.toInt) (f2 : xf.toInt ≤ 9) : ∀ (r : Nat) (ty : List Nat) (h : zH) (i : Nat) (n sm : Int32), zExt ty0 ty → zTY z_tt ty h → zE1 ty h → zFm (zcM zC239) ty0 h0 h → n.toInt = (i : Int) → i + r = 13 → z_ok sx d 238 4 [(5, .int n), (4, .int sm), (0, .ref a), (1, .int k), (2, .int xf), (3, .int xh)] [] h (zPo z_tt zE1 zC239 ty0 h0)
  | r, ty, h, i, n, sm, X, T, E, F, hi, hr => by
    have ih : ∀ (ty : List Nat) (h : zH) (i' : Nat) (n sm : Int32), zExt ty0 ty → zTY z_tt ty h → zE1 ty h → zFm (zcM zC239) ty0 h0 h → n.toInt = (i' : Int) → i' + (r - 1) = 13 → 0 < r → z_ok sx d 238 4 [(5, .int n), (4, .int sm), (0, .ref a), (1, .int k), (2, .int xf), (3, .int xh)] [] h (zPo z_tt zE1 zC239 ty0 h0) := fun ty h i' n sm a1 a2 a3 a4 a5 a6 a7 => by
      cases r with
      | zero => omega
      | succ r => exact zLp_238 hd H ha0 f1 f2 r ty h i' n sm a1 a2 a3 a4 a5 a6
    have hret : ∀ v : Int32, zPo z_tt zE1 zC239 ty0 h0 (.inl (some (.int v))) h 0 0 := fun v => ⟨ty, X, T, E, F, zFull_ok (ty := ty) v, Nat.le_refl _, Nat.le_refl _⟩
    obtain ⟨fs, he, hl⟩ := zcell0 (c := 9) (n := 23) T (X a 20 ha0) rfl rfl rfl
    obtain ⟨w, hw1, hw2⟩ := zfd2 (b := 1) (u := 21) T (X a 20 ha0) he (by omega) (by decide +kernel)
    obtain ⟨f, hf⟩ := zcell1 (n := 2086) T hw2 rfl rfl
    refine zh zJ_238 (i := (2, 0, 0, 0)) rfl rfl (k' := 5) (lo' := [(5, .int n), (4, .int sm), (0, .ref a), (1, .int k), (2, .int xf), (3, .int xh)]) (st' := [.ref a]) (h' := h) rfl ?_
    refine zh_get zJ_238 (a := a) (b := 1) (c := 9) (z := 0) rfl (k' := 6) rfl he hw1 ?_
    refine zh zJ_238 (i := (0, 0, 0, 3)) rfl rfl (k' := 7) (lo' := [(5, .int n), (4, .int sm), (0, .ref a), (1, .int k), (2, .int xf), (3, .int xh)]) (st' := [.int (Int32.ofInt (3)), .ref w]) (h' := h) rfl ?_
    refine zh_iald zJ_238 (z := 0) rfl (k' := 8) rfl hf (by decide) (by decide) ?_
    refine zh zJ_238 (i := (0, 0, 0, 1)) rfl rfl (k' := 9) (lo' := [(5, .int n), (4, .int sm), (0, .ref a), (1, .int k), (2, .int xf), (3, .int xh)]) (st' := [.int (Int32.ofInt (1)), .int (f (Int32.ofInt (3)).toNatClampNeg)]) (h' := h) rfl ?_
    refine zh_icmp zJ_238 (a := 47) (b := 1) (z := 0) rfl (fun hc => ?_) (fun hc => ?_)
    · refine zh zJ_238 (i := (1, 4, 0, 0)) rfl rfl (k' := 48) (lo' := [(5, .int n), (4, .int sm), (0, .ref a), (1, .int k), (2, .int xf), (3, .int xh)]) (st' := [.int sm]) (h' := h) rfl ?_
      refine zh_iret zJ_238 (a := 0) (b := 0) (z := 0) rfl (Or.inl rfl) ?_
      exact hret _
    · refine zh zJ_238 (i := (1, 5, 0, 0)) rfl rfl (k' := 11) (lo' := [(5, .int n), (4, .int sm), (0, .ref a), (1, .int k), (2, .int xf), (3, .int xh)]) (st' := [.int n]) (h' := h) rfl ?_
      refine zh zJ_238 (i := (2, 0, 0, 0)) rfl rfl (k' := 12) (lo' := [(5, .int n), (4, .int sm), (0, .ref a), (1, .int k), (2, .int xf), (3, .int xh)]) (st' := [.ref a, .int n]) (h' := h) rfl ?_
      refine zh_get zJ_238 (a := a) (b := 1) (c := 9) (z := 0) rfl (k' := 13) rfl he hw1 ?_
      refine zh zJ_238 (i := (0, 0, 0, 388)) rfl rfl (k' := 14) (lo' := [(5, .int n), (4, .int sm), (0, .ref a), (1, .int k), (2, .int xf), (3, .int xh)]) (st' := [.int (Int32.ofInt (388)), .ref w, .int n]) (h' := h) rfl ?_
      refine zh_iald zJ_238 (z := 0) rfl (k' := 15) rfl hf (by decide) (by decide) ?_
      rw [show (Int32.ofInt (388)).toNatClampNeg = 388 from rfl]
      refine zh_icmp zJ_238 (a := 47) (b := 3) (z := 0) rfl (fun hc => ?_) (fun hc => ?_)
      · refine zh zJ_238 (i := (1, 4, 0, 0)) rfl rfl (k' := 48) (lo' := [(5, .int n), (4, .int sm), (0, .ref a), (1, .int k), (2, .int xf), (3, .int xh)]) (st' := [.int sm]) (h' := h) rfl ?_
        refine zh_iret zJ_238 (a := 0) (b := 0) (z := 0) rfl (Or.inl rfl) ?_
        exact hret _
      · have hn : n.toInt < (f 388).toInt := by
          have : ¬ (f 388).toInt ≤ n.toInt := fun e => hc (zcmp_ge.mpr e)
          omega
        have hcnt := (E.2 w 21 2086 f hw2 (Or.inl rfl) hf).1
        have e4 : (Int32.ofInt (4) * n).toInt = 4 * n.toInt := by
          rw [Int32.toInt_mul, show (Int32.ofInt (4)).toInt = 4 from rfl]
          exact z_bm (by omega) (by omega)
        have e5 : (Int32.ofInt (389) + Int32.ofInt (4) * n).toInt = 389 + 4 * n.toInt := by
          rw [Int32.toInt_add, e4, show (Int32.ofInt (389)).toInt = 389 from rfl, z_bm (by omega) (by omega)]
        have e6 : (Int32.ofInt (389) + Int32.ofInt (4) * n + Int32.ofInt (1)).toInt = 390 + 4 * n.toInt := by
          rw [Int32.toInt_add, e5, show (Int32.ofInt (1)).toInt = 1 from rfl, z_bm (by omega) (by omega)]
          omega
        have skip : ∀ (ty9 : List Nat) (h9 : zH) (sm9 : Int32), zExt ty0 ty9 → zTY z_tt ty9 h9 → zE1 ty9 h9 → zFm (zcM zC239) ty0 h0 h9 → z_ok sx d 238 45 [(5, .int n), (4, .int sm9), (0, .ref a), (1, .int k), (2, .int xf), (3, .int xh)] [] h9 (zPo z_tt zE1 zC239 ty0 h0) := by
          intro ty9 h9 sm9 X9 T9 E9 F9
          refine zh zJ_238 (i := (7, 5, 0, 1)) rfl rfl (k' := 46) (lo' := [(5, .int (n + Int32.ofInt 1)), (4, .int sm9), (0, .ref a), (1, .int k), (2, .int xf), (3, .int xh)]) (st' := []) (h' := h9) rfl ?_
          refine zh zJ_238 (i := (30, 4, 0, 0)) rfl rfl (k' := 4) (lo' := [(5, .int (n + Int32.ofInt 1)), (4, .int sm9), (0, .ref a), (1, .int k), (2, .int xf), (3, .int xh)]) (st' := []) (h' := h9) rfl ?_
          exact ih ty9 h9 (i + 1) _ sm9 X9 T9 E9 F9 (zinc hi (by omega)) (by omega) (by omega)
        refine zh zJ_238 (i := (2, 0, 0, 0)) rfl rfl (k' := 17) (lo' := [(5, .int n), (4, .int sm), (0, .ref a), (1, .int k), (2, .int xf), (3, .int xh)]) (st' := [.ref a]) (h' := h) rfl ?_
        refine zh_get zJ_238 (a := a) (b := 1) (c := 9) (z := 0) rfl (k' := 18) rfl he hw1 ?_
        refine zh zJ_238 (i := (0, 0, 0, 389)) rfl rfl (k' := 19) (lo' := [(5, .int n), (4, .int sm), (0, .ref a), (1, .int k), (2, .int xf), (3, .int xh)]) (st' := [.int (Int32.ofInt (389)), .ref w]) (h' := h) rfl ?_
        refine zh zJ_238 (i := (0, 0, 0, 4)) rfl rfl (k' := 20) (lo' := [(5, .int n), (4, .int sm), (0, .ref a), (1, .int k), (2, .int xf), (3, .int xh)]) (st' := [.int (Int32.ofInt (4)), .int (Int32.ofInt (389)), .ref w]) (h' := h) rfl ?_
        refine zh zJ_238 (i := (1, 5, 0, 0)) rfl rfl (k' := 21) (lo' := [(5, .int n), (4, .int sm), (0, .ref a), (1, .int k), (2, .int xf), (3, .int xh)]) (st' := [.int n, .int (Int32.ofInt (4)), .int (Int32.ofInt (389)), .ref w]) (h' := h) rfl ?_
        refine zh zJ_238 (i := (10, 0, 0, 0)) rfl rfl (k' := 22) (lo' := [(5, .int n), (4, .int sm), (0, .ref a), (1, .int k), (2, .int xf), (3, .int xh)]) (st' := [.int ((Int32.ofInt (4)) * n), .int (Int32.ofInt (389)), .ref w]) (h' := h) rfl ?_
        refine zh zJ_238 (i := (8, 0, 0, 0)) rfl rfl (k' := 23) (lo' := [(5, .int n), (4, .int sm), (0, .ref a), (1, .int k), (2, .int xf), (3, .int xh)]) (st' := [.int ((Int32.ofInt (389)) + ((Int32.ofInt (4)) * n)), .ref w]) (h' := h) rfl ?_
        refine zh_iald zJ_238 (z := 0) rfl (k' := 24) rfl hf (by omega) (by omega) ?_
        refine zh zJ_238 (i := (1, 1, 0, 0)) rfl rfl (k' := 25) (lo' := [(5, .int n), (4, .int sm), (0, .ref a), (1, .int k), (2, .int xf), (3, .int xh)]) (st' := [.int k, .int (f ((Int32.ofInt (389)) + ((Int32.ofInt (4)) * n)).toNatClampNeg)]) (h' := h) rfl ?_
        refine zh_icmp zJ_238 (a := 45) (b := 1) (z := 0) rfl (fun hc => ?_) (fun hc => ?_)
        · exact skip ty h sm X T E F
        · refine zh zJ_238 (i := (2, 0, 0, 0)) rfl rfl (k' := 27) (lo' := [(5, .int n), (4, .int sm), (0, .ref a), (1, .int k), (2, .int xf), (3, .int xh)]) (st' := [.ref a]) (h' := h) rfl ?_
          refine zh zJ_238 (i := (1, 5, 0, 0)) rfl rfl (k' := 28) (lo' := [(5, .int n), (4, .int sm), (0, .ref a), (1, .int k), (2, .int xf), (3, .int xh)]) (st' := [.int n, .ref a]) (h' := h) rfl ?_
          refine zh zJ_238 (i := (1, 2, 0, 0)) rfl rfl (k' := 29) (lo' := [(5, .int n), (4, .int sm), (0, .ref a), (1, .int k), (2, .int xf), (3, .int xh)]) (st' := [.int xf, .int n, .ref a]) (h' := h) rfl ?_
          refine zh zJ_238 (i := (1, 3, 0, 0)) rfl rfl (k' := 30) (lo' := [(5, .int n), (4, .int sm), (0, .ref a), (1, .int k), (2, .int xf), (3, .int xh)]) (st' := [.int xh, .int xf, .int n, .ref a]) (h' := h) rfl ?_
          refine zh_run zJ_238 (i := (54, 237, 3, 9)) (rest := []) (as := [.ref a, .int n, .int xf, .int xh]) rfl (by decide) (zcal54 (xs := [.int xh, .int xf, .int n]) (by omega) rfl rfl he rfl (Nat.le_of_ble_eq_true rfl) (M' := z_m237) rfl (Nat.le_of_ble_eq_true rfl)) (zR_237 (by omega) H T E (X a 20 ha0) hw2 hf (by omega) hn f1 f2) (fun o h' x9 y9 q => ?_)
          obtain ⟨ty', q1, q2, q3, q4, q5⟩ := q
          cases o with
          | inr e => exact absurd q5.1 List.not_mem_nil
          | inl v =>
          obtain ⟨q5, q6, q7⟩ := q5
          obtain ⟨v9, rfl, c, rfl, c1, c2⟩ := zRt1 q5
          have q6 : x9 ≤ 0 := q6
          have q7 : y9 ≤ 0 := q7
          refine ⟨_, rfl, by omega, by omega, ?_⟩
          have F' : zFm (zcM zC239) ty0 h0 h' := F.tr X q4
          have X' := X.tr q1
          obtain ⟨fs2, he2, hl2⟩ := zcell0 (c := 9) (n := 23) q2 (X' a 20 ha0) rfl rfl rfl
          obtain ⟨w2, hw12, hw22⟩ := zfd2 (b := 1) (u := 21) q2 (X' a 20 ha0) he2 (by omega) (by decide +kernel)
          obtain ⟨f9, hf9⟩ := zcell1 (n := 2086) q2 hw22 rfl rfl
          show z_ok sx d 238 31 [(5, .int n), (4, .int sm), (0, .ref a), (1, .int k), (2, .int xf), (3, .int xh)] [.int c] h' _
          refine zh_if zJ_238 (a := 45) (b := 0) (z := 0) rfl (fun hc => ?_) (fun hc => ?_)
          · exact skip ty' h' sm X' q2 q3 F'
          · refine zh zJ_238 (i := (1, 4, 0, 0)) rfl rfl (k' := 33) (lo' := [(5, .int n), (4, .int sm), (0, .ref a), (1, .int k), (2, .int xf), (3, .int xh)]) (st' := [.int sm]) (h' := h') rfl ?_
            refine zh zJ_238 (i := (2, 0, 0, 0)) rfl rfl (k' := 34) (lo' := [(5, .int n), (4, .int sm), (0, .ref a), (1, .int k), (2, .int xf), (3, .int xh)]) (st' := [.ref a, .int sm]) (h' := h') rfl ?_
            refine zh_get zJ_238 (a := a) (b := 1) (c := 9) (z := 0) rfl (k' := 35) rfl he2 hw12 ?_
            refine zh zJ_238 (i := (0, 0, 0, 389)) rfl rfl (k' := 36) (lo' := [(5, .int n), (4, .int sm), (0, .ref a), (1, .int k), (2, .int xf), (3, .int xh)]) (st' := [.int (Int32.ofInt (389)), .ref w2, .int sm]) (h' := h') rfl ?_
            refine zh zJ_238 (i := (0, 0, 0, 4)) rfl rfl (k' := 37) (lo' := [(5, .int n), (4, .int sm), (0, .ref a), (1, .int k), (2, .int xf), (3, .int xh)]) (st' := [.int (Int32.ofInt (4)), .int (Int32.ofInt (389)), .ref w2, .int sm]) (h' := h') rfl ?_
            refine zh zJ_238 (i := (1, 5, 0, 0)) rfl rfl (k' := 38) (lo' := [(5, .int n), (4, .int sm), (0, .ref a), (1, .int k), (2, .int xf), (3, .int xh)]) (st' := [.int n, .int (Int32.ofInt (4)), .int (Int32.ofInt (389)), .ref w2, .int sm]) (h' := h') rfl ?_
            refine zh zJ_238 (i := (10, 0, 0, 0)) rfl rfl (k' := 39) (lo' := [(5, .int n), (4, .int sm), (0, .ref a), (1, .int k), (2, .int xf), (3, .int xh)]) (st' := [.int ((Int32.ofInt (4)) * n), .int (Int32.ofInt (389)), .ref w2, .int sm]) (h' := h') rfl ?_
            refine zh zJ_238 (i := (8, 0, 0, 0)) rfl rfl (k' := 40) (lo' := [(5, .int n), (4, .int sm), (0, .ref a), (1, .int k), (2, .int xf), (3, .int xh)]) (st' := [.int ((Int32.ofInt (389)) + ((Int32.ofInt (4)) * n)), .ref w2, .int sm]) (h' := h') rfl ?_
            refine zh zJ_238 (i := (0, 0, 0, 1)) rfl rfl (k' := 41) (lo' := [(5, .int n), (4, .int sm), (0, .ref a), (1, .int k), (2, .int xf), (3, .int xh)]) (st' := [.int (Int32.ofInt (1)), .int ((Int32.ofInt (389)) + ((Int32.ofInt (4)) * n)), .ref w2, .int sm]) (h' := h') rfl ?_
            refine zh zJ_238 (i := (8, 0, 0, 0)) rfl rfl (k' := 42) (lo' := [(5, .int n), (4, .int sm), (0, .ref a), (1, .int k), (2, .int xf), (3, .int xh)]) (st' := [.int (((Int32.ofInt (389)) + ((Int32.ofInt (4)) * n)) + (Int32.ofInt (1))), .ref w2, .int sm]) (h' := h') rfl ?_
            refine zh_iald zJ_238 (z := 0) rfl (k' := 43) rfl hf9 (by omega) (by omega) ?_
            refine zh zJ_238 (i := (8, 0, 0, 0)) rfl rfl (k' := 44) (lo' := [(5, .int n), (4, .int sm), (0, .ref a), (1, .int k), (2, .int xf), (3, .int xh)]) (st' := [.int (sm + (f9 (((Int32.ofInt (389)) + ((Int32.ofInt (4)) * n)) + (Int32.ofInt (1))).toNatClampNeg))]) (h' := h') rfl ?_
            refine zh zJ_238 (i := (4, 4, 0, 0)) rfl rfl (k' := 45) (lo' := [(4, .int (sm + (f9 (((Int32.ofInt (389)) + ((Int32.ofInt (4)) * n)) + (Int32.ofInt (1))).toNatClampNeg))), (5, .int n), (0, .ref a), (1, .int k), (2, .int xf), (3, .int xh)]) (st' := []) (h' := h') rfl ?_
            refine zh zJ_238 (i := (7, 5, 0, 1)) rfl rfl (k' := 46) (lo' := [(5, .int (n + Int32.ofInt 1)), (4, .int (sm + (f9 (((Int32.ofInt (389)) + ((Int32.ofInt (4)) * n)) + (Int32.ofInt (1))).toNatClampNeg))), (0, .ref a), (1, .int k), (2, .int xf), (3, .int xh)]) (st' := []) (h' := h') rfl ?_
            refine zh zJ_238 (i := (30, 4, 0, 0)) rfl rfl (k' := 4) (lo' := [(5, .int (n + Int32.ofInt 1)), (4, .int (sm + (f9 (((Int32.ofInt (389)) + ((Int32.ofInt (4)) * n)) + (Int32.ofInt (1))).toNatClampNeg))), (0, .ref a), (1, .int k), (2, .int xf), (3, .int xh)]) (st' := []) (h' := h') rfl ?_
            exact ih ty' h' (i + 1) _ _ X' q2 q3 F' (zinc hi (by omega)) (by omega) (by omega)
set_option maxRecDepth 100000 in
theorem zV_239 (H : ∀ c, c < 239 → ∀ c', zCtl[c]? = some c' → zVd z_tt zE1 c') : zVd z_tt zE1 zC239 := by
  intro sx d ty h as hd T E hA
  have hd : 22 ≤ d := hd
  match as, hA with
  | [v0, v1, v2, v3], hA =>
  obtain ⟨⟨a, t, rfl, ha, t1, t2⟩, ⟨k, rfl, -, -⟩, ⟨xf, rfl, f1, f2⟩, ⟨xh, rfl, -, -⟩, -⟩ := hA
  have et : t = 20 := by omega
  subst et
  show z_ok sx d 238 0 [(0, .ref a), (1, .int k), (2, .int xf), (3, .int xh)] [] h _
  refine zh zJ_238 (i := (0, 0, 0, 0)) rfl rfl (k' := 1) (lo' := [(0, .ref a), (1, .int k), (2, .int xf), (3, .int xh)]) (st' := [.int (Int32.ofInt (0))]) (h' := h) rfl ?_
  refine zh zJ_238 (i := (4, 4, 0, 0)) rfl rfl (k' := 2) (lo' := [(4, .int (Int32.ofInt (0))), (0, .ref a), (1, .int k), (2, .int xf), (3, .int xh)]) (st' := []) (h' := h) rfl ?_
  refine zh zJ_238 (i := (0, 0, 0, 0)) rfl rfl (k' := 3) (lo' := [(4, .int (Int32.ofInt (0))), (0, .ref a), (1, .int k), (2, .int xf), (3, .int xh)]) (st' := [.int (Int32.ofInt (0))]) (h' := h) rfl ?_
  refine zh zJ_238 (i := (4, 5, 0, 0)) rfl rfl (k' := 4) (lo' := [(5, .int (Int32.ofInt (0))), (4, .int (Int32.ofInt (0))), (0, .ref a), (1, .int k), (2, .int xf), (3, .int xh)]) (st' := []) (h' := h) rfl ?_
  exact zLp_238 (by omega) H ha f1 f2 13 ty h 0 _ _ zExt.rf T E zFm.rf rfl rfl
end
section
/-! has by hand; the chain that isDealt follows; printed with wip/gen/gen_has.py -/
theorem zJ_178 : zJ3 178 z_m178 z_c178 z_h178 := ⟨rfl, rfl, rfl⟩
noncomputable def zbit (s f : Int32) : Bool := decide ((s >>> (f &&& 31)) &&& 1 = 1)
theorem zR_178 {sx : zX} {d : Nat} {h : zH} {s f : Int32} : z_ok sx d 178 0 [(0, .int s), (1, .int f)] [] h (fun o h' x y => h' = h ∧ x = 0 ∧ y = 0 ∧ o = .inl (some (.int (if zbit s f = true then 1 else 0)))) := by
  refine zh zJ_178 (i := (1, 0, 0, 0)) rfl rfl (k' := 1) (lo' := [(0, .int s), (1, .int f)]) (st' := [.int s]) (h' := h) rfl ?_
  refine zh zJ_178 (i := (1, 1, 0, 0)) rfl rfl (k' := 2) (lo' := [(0, .int s), (1, .int f)]) (st' := [.int f, .int s]) (h' := h) rfl ?_
  refine zh zJ_178 (i := (14, 0, 0, 0)) rfl rfl (k' := 3) (lo' := [(0, .int s), (1, .int f)]) (st' := [.int (s >>> (f &&& 31))]) (h' := h) rfl ?_
  refine zh zJ_178 (i := (0, 0, 0, 1)) rfl rfl (k' := 4) (lo' := [(0, .int s), (1, .int f)]) (st' := [.int (Int32.ofInt (1)), .int (s >>> (f &&& 31))]) (h' := h) rfl ?_
  refine zh zJ_178 (i := (16, 0, 0, 0)) rfl rfl (k' := 5) (lo' := [(0, .int s), (1, .int f)]) (st' := [.int ((s >>> (f &&& 31)) &&& (Int32.ofInt (1)))]) (h' := h) rfl ?_
  refine zh zJ_178 (i := (0, 0, 0, 1)) rfl rfl (k' := 6) (lo' := [(0, .int s), (1, .int f)]) (st' := [.int (Int32.ofInt (1)), .int ((s >>> (f &&& 31)) &&& (Int32.ofInt (1)))]) (h' := h) rfl ?_
  refine zh_icmp zJ_178 (a := 9) (b := 1) (z := 0) rfl (fun hc => ?_) (fun hc => ?_)
  · refine zh zJ_178 (i := (0, 0, 0, 0)) rfl rfl (k' := 10) (lo' := [(0, .int s), (1, .int f)]) (st' := [.int (Int32.ofInt (0))]) (h' := h) rfl ?_
    refine zh_iret zJ_178 (a := 0) (b := 0) (z := 0) rfl (Or.inr ⟨rfl, Or.inl rfl⟩) ?_
    refine ⟨rfl, rfl, rfl, ?_⟩
    have hn : ¬ zbit s f = true := fun e => zcmp_ne.mp hc (by
      have e2 := of_decide_eq_true e
      exact congrArg Int32.toInt e2)
    rw [if_neg hn]
    rfl
  · refine zh zJ_178 (i := (0, 0, 0, 1)) rfl rfl (k' := 8) (lo' := [(0, .int s), (1, .int f)]) (st' := [.int (Int32.ofInt (1))]) (h' := h) rfl ?_
    refine zh zJ_178 (i := (30, 10, 0, 0)) rfl rfl (k' := 10) (lo' := [(0, .int s), (1, .int f)]) (st' := [.int (Int32.ofInt (1))]) (h' := h) rfl ?_
    refine zh_iret zJ_178 (a := 0) (b := 0) (z := 0) rfl (Or.inr ⟨rfl, Or.inr rfl⟩) ?_
    refine ⟨rfl, rfl, rfl, ?_⟩
    have hy : zbit s f = true := decide_eq_true (by
      by_cases e : ((s >>> (f &&& 31)) &&& 1).toInt = (1 : Int32).toInt
      · exact Int32.toInt_inj.mp e
      · exact absurd (zcmp_ne.mpr e) hc)
    rw [if_pos hy]
    rfl
/-- bits of small sets -/
theorem zbits : (List.range 64).all (fun s => (List.range 6).all (fun f => decide ((Int32.ofNat s ||| (1 <<< (Int32.ofNat f &&& 31))).toInt < 64 ∧ 0 ≤ (Int32.ofNat s ||| (1 <<< (Int32.ofNat f &&& 31))).toInt) && (List.range 6).all (fun g => zbit (Int32.ofNat s ||| (1 <<< (Int32.ofNat f &&& 31))) (Int32.ofNat g) == (decide (g = f) || zbit (Int32.ofNat s) (Int32.ofNat g))))) = true := by decide +kernel
theorem zbit0 : (List.range 6).all (fun g => !zbit 0 (Int32.ofNat g)) = true := by decide +kernel
theorem zofn {x : Int32} {n : Nat} (h : x.toInt = (n : Int)) (hn : n ≤ 1000) : x = Int32.ofNat n := Int32.toInt_inj.mp (by rw [h, zofNat hn])
theorem zbit_or {s f : Int32} (s1 : 0 ≤ s.toInt) (s2 : s.toInt < 64) (f1 : 0 ≤ f.toInt) (f2 : f.toInt < 6) : (0 ≤ (s ||| (1 <<< (f &&& 31))).toInt ∧ (s ||| (1 <<< (f &&& 31))).toInt < 64) ∧ ∀ g : Int32, 0 ≤ g.toInt → g.toInt < 6 → (zbit (s ||| (1 <<< (f &&& 31))) g = true ↔ g = f ∨ zbit s g = true) := by
  have es := zofn (x := s) (n := s.toInt.toNat) (by omega) (by omega)
  have ef := zofn (x := f) (n := f.toInt.toNat) (by omega) (by omega)
  have h1 := List.all_eq_true.mp zbits s.toInt.toNat (List.mem_range.mpr (by omega))
  have h2 := List.all_eq_true.mp h1 f.toInt.toNat (List.mem_range.mpr (by omega))
  rw [← es, ← ef, Bool.and_eq_true, decide_eq_true_eq] at h2
  refine ⟨⟨h2.1.2, h2.1.1⟩, fun g g1 g2 => ?_⟩
  have eg := zofn (x := g) (n := g.toInt.toNat) (by omega) (by omega)
  have h3 := List.all_eq_true.mp h2.2 g.toInt.toNat (List.mem_range.mpr (by omega))
  rw [← eg] at h3
  rw [beq_iff_eq.mp h3, Bool.or_eq_true, decide_eq_true_eq]
  refine or_congr ⟨fun e => Int32.toInt_inj.mp (by omega), fun e => by rw [e]⟩ Iff.rfl
/-- each that was seen came from one seen before it, or from none -/
noncomputable def zChn (s : Int32) (cf : Nat → Int32) : Prop := (0 ≤ s.toInt ∧ s.toInt < 64) ∧ ∃ (rk : Int → Nat) (N : Nat), ∀ g : Int32, 0 ≤ g.toInt → g.toInt < 6 → zbit s g = true → rk g.toInt ≤ N ∧ ((cf g.toInt.toNat).toInt = -1 ∨ (0 ≤ (cf g.toInt.toNat).toInt ∧ (cf g.toInt.toNat).toInt < 6 ∧ zbit s (cf g.toInt.toNat) = true ∧ rk (cf g.toInt.toNat).toInt < rk g.toInt))
theorem zChn_0 (cf : Nat → Int32) : zChn 0 cf := ⟨⟨by decide, by decide⟩, fun _ => 0, 0, fun g g1 g2 hb => by
  have eg := zofn (x := g) (n := g.toInt.toNat) (by omega) (by omega)
  have h := List.all_eq_true.mp zbit0 g.toInt.toNat (List.mem_range.mpr (by omega))
  rw [← eg, hb] at h
  cases h⟩
theorem zChn_add {s f v : Int32} {cf : Nat → Int32} (h : zChn s cf) (f1 : 0 ≤ f.toInt) (f2 : f.toInt < 6) (hf : ¬ zbit s f = true) (hv : v.toInt = -1 ∨ (0 ≤ v.toInt ∧ v.toInt < 6 ∧ zbit s v = true)) : zChn (s ||| (1 <<< (f &&& 31))) (upd cf f.toInt.toNat v) := by
  obtain ⟨⟨s1, s2⟩, rk, N, H⟩ := h
  obtain ⟨hr, hb⟩ := zbit_or s1 s2 f1 f2
  refine ⟨hr, fun z => if z = f.toInt then N + 1 else rk z, N + 1, fun g g1 g2 hg => ?_⟩
  unfold upd
  dsimp only
  rcases (hb g g1 g2).mp hg with e | e
  · subst e
    refine ⟨by rw [if_pos rfl]; exact Nat.le_refl _, ?_⟩
    rw [if_pos rfl, if_pos rfl]
    rcases hv with hv | ⟨v1, v2, v3⟩
    · exact Or.inl hv
    · refine Or.inr ⟨v1, v2, (hb v v1 v2).mpr (Or.inr v3), ?_⟩
      have hne : v.toInt ≠ g.toInt := fun e => hf (by rw [← Int32.toInt_inj.mp e]; exact v3)
      rw [if_neg hne]
      have := (H v v1 v2 v3).1
      omega
  · have hne : g.toInt ≠ f.toInt := fun q => hf (by rw [← Int32.toInt_inj.mp q]; exact e)
    obtain ⟨k1, k2⟩ := H g g1 g2 e
    refine ⟨by rw [if_neg hne]; omega, ?_⟩
    rw [if_neg (show ¬ g.toInt.toNat = f.toInt.toNat by omega), if_neg hne]
    rcases k2 with k2 | ⟨v1, v2, v3, v4⟩
    · exact Or.inl k2
    · refine Or.inr ⟨v1, v2, (hb _ v1 v2).mpr (Or.inr v3), ?_⟩
      have hne2 : (cf g.toInt.toNat).toInt ≠ f.toInt := fun q => hf (by rw [← Int32.toInt_inj.mp q]; exact v3)
      rw [if_neg hne2]
      exact v4
end
section
/-! what was seen, and whence: as the heap has it -/
noncomputable def zSe (h : zH) (a : Nat) (s : Int32) (cf : Nat → Int32) : Prop := ∃ (e ec : zE) (wc : Nat), h[a]? = some e ∧ z_rd e 22 = some (.int s) ∧ z_rd e 21 = some (.ref wc) ∧ h[wc]? = some ec ∧ ∀ i, i < 6 → z_rd ec i = some (.int (cf i))
theorem zSe.keep {ms : List zMod} {ty : List Nat} {h h' : zH} {a : Nat} {s : Int32} {cf : Nat → Int32} (S : zSe h a s cf) (T : zTY z_tt ty h) (ha : ty[a]? = some 20) (F : zFm ms ty h h') (h1 : ∀ i, 21 ≤ i → i ≤ 22 → ¬ zIn ms 20 i) (h2 : ∀ i, ¬ zIn ms 32 i) : zSe h' a s cf := by
  obtain ⟨e, ec, wc, k1, k2, k3, k4, k5⟩ := S
  have hla : a < h'.length := Nat.lt_of_lt_of_le (List.getElem?_eq_some_iff.mp k1).1 F.1
  have hlc : wc < h'.length := Nat.lt_of_lt_of_le (List.getElem?_eq_some_iff.mp k4).1 F.1
  have hc : ty[wc]? = some 32 := by
    obtain ⟨i, t, q1, q2, q3, q4⟩ := (T.2.2 a 20 e ha k1).2 21 _ k3 (21, 21, (2, 32, 32)) (by decide +kernel) (by decide) (by decide)
    cases q1
    have : t = 32 := by omega
    rw [← this]
    exact q2
  refine ⟨h'[a], h'[wc], wc, List.getElem?_eq_getElem hla, ?_, ?_, List.getElem?_eq_getElem hlc, fun i hi => ?_⟩
  · rw [F.2 a 20 e _ ha k1 (List.getElem?_eq_getElem hla) 22 (h1 22 (by omega) (by omega))]
    exact k2
  · rw [F.2 a 20 e _ ha k1 (List.getElem?_eq_getElem hla) 21 (h1 21 (by omega) (by omega))]
    exact k3
  · rw [F.2 wc 32 ec _ hc k4 (List.getElem?_eq_getElem hlc) i (h2 i)]
    exact k5 i hi
noncomputable def zC_fam : zCt := (184, [(2, 20, 20)], [(0, 0, 6)], [], [], 2, (0, 0, 0, 0), [])
noncomputable def zC_wsh : zCt := (191, [(2, 20, 20), (0, 0, 5), (0, 0, 23)], [(0, 0, 1)], [], [], 6, (0, 0, 0, 0), [])
noncomputable def zC_shr : zCt := (243, [(2, 20, 20), (0, 0, 5)], [zFull], [], [], 10, (0, 0, 0, 0), [])
theorem zK_fam : zck z_tt zCtl zCand 240 zC_fam 0 4000 = true := by decide +kernel
theorem zK_wsh : zck z_tt zCtl zCand 240 zC_wsh 0 4000 = true := by decide +kernel
theorem zK_shr : zck z_tt zCtl zCand 240 zC_shr 0 4000 = true := by decide +kernel
theorem zJ_285 : zJ3 285 z_m285 z_c285 z_h285 := ⟨rfl, rfl, rfl⟩
theorem zJ_286 : zJ3 286 z_m286 z_c286 z_h286 := ⟨rfl, rfl, rfl⟩
theorem zJ_287 : zJ3 287 z_m287 z_c287 z_h287 := ⟨rfl, rfl, rfl⟩
end
section
/-! looksFor by hand; printed with wip/gen/gen_looks.py -/
noncomputable def zMlf : List zMod := [(20, 22, 22), (31, 0, 5), (32, 0, 5)]
noncomputable def zPlf (ty0 : List Nat) (h0 : zH) (a : Nat) : zO → zH → Nat → Nat → Prop := fun o h' x y => x = 0 ∧ y = 0 ∧ ∃ (ty' : List Nat) (r s' : Int32) (cf' : Nat → Int32), zExt ty0 ty' ∧ zTY z_tt ty' h' ∧ zE1 ty' h' ∧ zFm zMlf ty0 h0 h' ∧ o = .inl (some (.int r)) ∧ zSe h' a s' cf' ∧ zChn s' cf' ∧ (r.toInt = -1 ∨ (0 ≤ r.toInt ∧ r.toInt < 6 ∧ zbit s' r = true))
theorem zno20 {ms : List zMod} (h : ms = []) {t i : Nat} : ¬ zIn ms t i := by
  subst h
  rintro ⟨m, hm, -⟩
  cases hm
set_option maxRecDepth 100000 in
theorem zLp_285 {sx : zX} {d a : Nat} {ty0 : List Nat} {h0 : zH} {hr v : Int32} (hd : 14 ≤ d) (H : ∀ c, c < 240 → ∀ c', zCtl[c]? = some c' → zVd z_tt zE1 c') (ha0 : ty0[a]? = some 20) (r1 : 0 ≤ hr.toInt) (r2 : hr.toInt ≤ 23) : ∀ (rm : Nat) (ty : List Nat) (h : zH) (i : Nat) (x s : Int32) (cf : Nat → Int32), zExt ty0 ty → zTY z_tt ty h → zE1 ty h → zFm zMlf ty0 h0 h → x.toInt = (i : Int) → i + rm = 7 → zSe h a s cf → zChn s cf → (v.toInt = -1 ∨ (0 ≤ v.toInt ∧ v.toInt < 6 ∧ zbit s v = true)) → z_ok sx d 285 2 [(3, .int x), (0, .ref a), (1, .int hr), (2, .int v)] [] h (zPlf ty0 h0 a)
  | rm, ty, h, i, x, s, cf, X, T, E, F, hi, hrm, S, C, V => by
    have ih : ∀ (ty : List Nat) (h : zH) (i : Nat) (x s : Int32) (cf : Nat → Int32), zExt ty0 ty → zTY z_tt ty h → zE1 ty h → zFm zMlf ty0 h0 h → x.toInt = (i : Int) → i + (rm - 1) = 7 → 0 < rm → zSe h a s cf → zChn s cf → (v.toInt = -1 ∨ (0 ≤ v.toInt ∧ v.toInt < 6 ∧ zbit s v = true)) → z_ok sx d 285 2 [(3, .int x), (0, .ref a), (1, .int hr), (2, .int v)] [] h (zPlf ty0 h0 a) := fun ty h i x s cf b1 b2 b3 b4 b5 b6 b7 b8 b9 b10 => by
      cases rm with
      | zero => omega
      | succ rm => exact zLp_285 hd H ha0 r1 r2 rm ty h i x s cf b1 b2 b3 b4 b5 b6 b8 b9 b10
    refine zh zJ_285 (i := (1, 3, 0, 0)) rfl rfl (k' := 3) (lo' := [(3, .int x), (0, .ref a), (1, .int hr), (2, .int v)]) (st' := [.int x]) (h' := h) rfl ?_
    refine zh zJ_285 (i := (2, 0, 0, 0)) rfl rfl (k' := 4) (lo' := [(3, .int x), (0, .ref a), (1, .int hr), (2, .int v)]) (st' := [.ref a, .int x]) (h' := h) rfl ?_
    obtain ⟨fs0, he0, hl0⟩ := zcell0 (c := 9) (n := 23) T (X a 20 ha0) rfl rfl rfl
    refine zh_con zJ_285 (i := (54, 184, 0, 9)) (rest := [.int x]) (as := [.ref a]) rfl (by decide) (zcal54 (xs := []) (by omega) rfl rfl he0 rfl (Nat.le_of_ble_eq_true rfl) (M' := z_m184) rfl (Nat.le_of_ble_eq_true rfl)) (zck_ok (zE1_stable (by decide +kernel)) H zK_fam) rfl (by show 2 + 1 ≤ d; omega) rfl ⟨rfl, rfl⟩ T E ⟨⟨_, 20, rfl, X a 20 ha0, Int.le_refl _, Int.le_refl _⟩, trivial⟩ (fun ty1 h1 v1 Y1 T1 E1 F1 R1 => ?_)
    obtain ⟨u1, rfl, c, rfl, c1, c2⟩ := zRt1 R1
    have X1 := X.tr Y1
    have S1 := S.keep T (X a 20 ha0) F1 (fun _ _ _ => zno20 rfl) (fun _ => zno20 rfl)
    have G1 : zFm zMlf ty0 h0 h1 := F.tr X (F1.mono (fun _ _ q => absurd q (zno20 rfl)))
    show z_ok sx d 285 5 [(3, .int x), (0, .ref a), (1, .int hr), (2, .int v)] [.int c, .int x] h1 _
    refine zh_icmp zJ_285 (a := 47) (b := 3) (z := 0) rfl (fun hc => ?_) (fun hc => ?_)
    · refine zh zJ_285 (i := (0, 0, 0, -1)) rfl rfl (k' := 48) (lo' := [(3, .int x), (0, .ref a), (1, .int hr), (2, .int v)]) (st' := [.int (Int32.ofInt (-1))]) (h' := h1) rfl ?_
      refine zh_iret zJ_285 (a := 0) (b := 0) (z := 0) rfl (Or.inl rfl) ?_
      exact ⟨rfl, rfl, ty1, _, s, cf, X1, T1, E1, G1, rfl, S1, C, Or.inl rfl⟩
    · have hx6 : x.toInt < 6 := by
        have : ¬ c.toInt ≤ x.toInt := fun e => hc (zcmp_ge.mpr e)
        omega
      obtain ⟨fs, he, hl⟩ := zcell0 (c := 9) (n := 23) T1 (X1 a 20 ha0) rfl rfl rfl
      obtain ⟨e1, ec1, wc, k1, k2, k3, k4, k5⟩ := id S1
      rw [he] at k1
      cases k1
      have k2 : fs[22]? = some (.int s) := k2
      have k3 : fs[21]? = some (.ref wc) := k3
      refine zh zJ_285 (i := (2, 0, 0, 0)) rfl rfl (k' := 7) (lo' := [(3, .int x), (0, .ref a), (1, .int hr), (2, .int v)]) (st' := [.ref a]) (h' := h1) rfl ?_
      refine zh_get zJ_285 (a := a) (b := 22) (c := 9) (z := 0) rfl (k' := 8) rfl he k2 ?_
      refine zh zJ_285 (i := (1, 3, 0, 0)) rfl rfl (k' := 9) (lo' := [(3, .int x), (0, .ref a), (1, .int hr), (2, .int v)]) (st' := [.int x, .int s]) (h' := h1) rfl ?_
      refine zh_run zJ_285 (i := (55, 178, 2, 0)) (rest := []) (as := [.int s, .int x]) rfl (by decide) (zcal55 (xs := [.int x, .int s]) (by omega) rfl rfl (Nat.le_of_ble_eq_true rfl) (M' := z_m178) rfl (Nat.le_of_ble_eq_true rfl)) zR_178 (fun o h' x9 y9 q => ?_)
      obtain ⟨rfl, rfl, rfl, rfl⟩ := q
      refine ⟨_, rfl, rfl, rfl, ?_⟩
      show z_ok sx d 285 10 [(3, .int x), (0, .ref a), (1, .int hr), (2, .int v)] [.int (if zbit s x = true then 1 else 0)] h' _
      refine zh_if zJ_285 (a := 45) (b := 1) (z := 0) rfl (fun hc => ?_) (fun hc => ?_)
      · refine zh zJ_285 (i := (7, 3, 0, 1)) rfl rfl (k' := 46) (lo' := [(3, .int (x + Int32.ofInt (1))), (0, .ref a), (1, .int hr), (2, .int v)]) (st' := []) (h' := h') rfl ?_
        refine zh zJ_285 (i := (30, 2, 0, 0)) rfl rfl (k' := 2) (lo' := [(3, .int (x + Int32.ofInt (1))), (0, .ref a), (1, .int hr), (2, .int v)]) (st' := []) (h' := h') rfl ?_
        exact ih ty1 h' (i + 1) _ s cf X1 T1 E1 G1 (zinc hi (by omega)) (by omega) (by omega) S1 C V
      · have hnb : ¬ zbit s x = true := fun e => hc (by rw [if_pos e]; exact zcmp_ne.mpr (by decide))
        refine zh zJ_285 (i := (2, 0, 0, 0)) rfl rfl (k' := 12) (lo' := [(3, .int x), (0, .ref a), (1, .int hr), (2, .int v)]) (st' := [.ref a]) (h' := h') rfl ?_
        refine zh zJ_285 (i := (1, 3, 0, 0)) rfl rfl (k' := 13) (lo' := [(3, .int x), (0, .ref a), (1, .int hr), (2, .int v)]) (st' := [.int x, .ref a]) (h' := h') rfl ?_
        refine zh zJ_285 (i := (1, 1, 0, 0)) rfl rfl (k' := 14) (lo' := [(3, .int x), (0, .ref a), (1, .int hr), (2, .int v)]) (st' := [.int hr, .int x, .ref a]) (h' := h') rfl ?_
        refine zh_con zJ_285 (i := (54, 191, 2, 9)) (rest := []) (as := [.ref a, .int x, .int hr]) rfl (by decide) (zcal54 (xs := [.int hr, .int x]) (by omega) rfl rfl he rfl (Nat.le_of_ble_eq_true rfl) (M' := z_m191) rfl (Nat.le_of_ble_eq_true rfl)) (zck_ok (zE1_stable (by decide +kernel)) H zK_wsh) rfl (by show 6 + 1 ≤ d; omega) rfl ⟨rfl, rfl⟩ T1 E1 ⟨⟨_, 20, rfl, X1 a 20 ha0, Int.le_refl _, Int.le_refl _⟩, ⟨x, rfl, by omega, by omega⟩, ⟨hr, rfl, r1, r2⟩, trivial⟩ (fun ty2 h2 v2 Y2 T2 E2 F2 R2 => ?_)
        obtain ⟨u2, rfl, wv, rfl, -, -⟩ := zRt1 R2
        have X2 := X1.tr Y2
        have S2 := S1.keep T1 (X1 a 20 ha0) F2 (fun _ _ _ => zno20 rfl) (fun _ => zno20 rfl)
        have G2 : zFm zMlf ty0 h0 h2 := G1.tr X1 (F2.mono (fun _ _ q => absurd q (zno20 rfl)))
        show z_ok sx d 285 15 [(3, .int x), (0, .ref a), (1, .int hr), (2, .int v)] [.int wv] h2 _
        refine zh_if zJ_285 (a := 17) (b := 1) (z := 0) rfl (fun hc => ?_) (fun hc => ?_)
        · obtain ⟨fs, he, hl⟩ := zcell0 (c := 9) (n := 23) T2 (X2 a 20 ha0) rfl rfl rfl
          obtain ⟨e1, ec1, wc, k1, k2, k3, k4, k5⟩ := id S2
          rw [he] at k1
          cases k1
          have k2 : fs[22]? = some (.int s) := k2
          have k3 : fs[21]? = some (.ref wc) := k3
          refine zh zJ_285 (i := (2, 0, 0, 0)) rfl rfl (k' := 18) (lo' := [(3, .int x), (0, .ref a), (1, .int hr), (2, .int v)]) (st' := [.ref a]) (h' := h2) rfl ?_
          refine zh zJ_285 (i := (27, 0, 0, 0)) rfl rfl (k' := 19) (lo' := [(3, .int x), (0, .ref a), (1, .int hr), (2, .int v)]) (st' := [.ref a, .ref a]) (h' := h2) rfl ?_
          refine zh_get zJ_285 (a := a) (b := 22) (c := 9) (z := 0) rfl (k' := 20) rfl he k2 ?_
          refine zh zJ_285 (i := (0, 0, 0, 1)) rfl rfl (k' := 21) (lo' := [(3, .int x), (0, .ref a), (1, .int hr), (2, .int v)]) (st' := [.int (Int32.ofInt (1)), .int s, .ref a]) (h' := h2) rfl ?_
          refine zh zJ_285 (i := (1, 3, 0, 0)) rfl rfl (k' := 22) (lo' := [(3, .int x), (0, .ref a), (1, .int hr), (2, .int v)]) (st' := [.int x, .int (Int32.ofInt (1)), .int s, .ref a]) (h' := h2) rfl ?_
          refine zh zJ_285 (i := (13, 0, 0, 0)) rfl rfl (k' := 23) (lo' := [(3, .int x), (0, .ref a), (1, .int hr), (2, .int v)]) (st' := [.int ((Int32.ofInt (1)) <<< (x &&& 31)), .int s, .ref a]) (h' := h2) rfl ?_
          refine zh zJ_285 (i := (17, 0, 0, 0)) rfl rfl (k' := 24) (lo' := [(3, .int x), (0, .ref a), (1, .int hr), (2, .int v)]) (st' := [.int (s ||| ((Int32.ofInt (1)) <<< (x &&& 31))), .ref a]) (h' := h2) rfl ?_
          obtain ⟨T3, F3⟩ := zwf' (ms := zMlf) (b := 22) (v := .int (s ||| (Int32.ofInt (1) <<< (x &&& 31)))) (V := zFull) T2 (X2 a 20 ha0) he (by omega) (zFull_ok _) (by decide +kernel) (by decide +kernel)
          have he3 := zset_eq (e := .inr (9, fs.set 22 (.int (s ||| (Int32.ofInt (1) <<< (x &&& 31)))))) he
          have q22 : (fs.set 22 (.int (s ||| (Int32.ofInt (1) <<< (x &&& 31)))))[22]? = some (.int (s ||| (Int32.ofInt (1) <<< (x &&& 31)))) := List.getElem?_set_self (by omega)
          have q21 : (fs.set 22 (.int (s ||| (Int32.ofInt (1) <<< (x &&& 31)))))[21]? = some (.ref wc) := by rw [List.getElem?_set_ne (by decide)]; exact k3
          have hl3 : (fs.set 22 (.int (s ||| (Int32.ofInt (1) <<< (x &&& 31))))).length = 23 := by rw [List.length_set]; exact hl
          refine zh_put zJ_285 (b := 22) (c := 9) (z := 0) rfl (k' := 25) rfl he (by omega) rfl ?_
          have hwc := zfd2 (b := 21) (u := 32) T2 (X2 a 20 ha0) he (by omega) (by decide +kernel)
          have hwc : ty2[wc]? = some 32 := by
            obtain ⟨w9, e9, h9⟩ := hwc
            rw [k3] at e9
            cases e9
            exact h9
          have nac : a ≠ wc := fun e => by have q := X2 a 20 ha0; rw [e, hwc] at q; cases q
          have k43 := (zset_ne (h := h2) (e := .inr (9, fs.set 22 (.int (s ||| (Int32.ofInt (1) <<< (x &&& 31)))))) nac).trans k4
          generalize fs.set 22 (.int (s ||| (Int32.ofInt (1) <<< (x &&& 31)))) = gs at T3 F3 he3 hl3 q22 q21 k43 ⊢
          generalize h2.set a (.inr (9, gs)) = h3 at T3 F3 he3 k43 ⊢
          obtain ⟨wb, hb1, hb2⟩ := zfd2 (b := 20) (u := 31) T3 (X2 a 20 ha0) he3 (by omega) (by decide +kernel)
          obtain ⟨fb, hfb⟩ := zcell1 (n := 6) T3 hb2 rfl rfl
          obtain ⟨fc, hfc⟩ := zcell1 (n := 6) T3 hwc rfl rfl
          rw [hfc] at k43
          have k43 := Option.some.inj k43
          subst k43
          refine zh zJ_285 (i := (2, 0, 0, 0)) rfl rfl (k' := 26) (lo' := [(3, .int x), (0, .ref a), (1, .int hr), (2, .int v)]) (st' := [.ref a]) (h' := h3) rfl ?_
          refine zh_get zJ_285 (a := a) (b := 20) (c := 9) (z := 0) rfl (k' := 27) rfl he3 hb1 ?_
          refine zh zJ_285 (i := (1, 3, 0, 0)) rfl rfl (k' := 28) (lo' := [(3, .int x), (0, .ref a), (1, .int hr), (2, .int v)]) (st' := [.int x, .ref wb]) (h' := h3) rfl ?_
          refine zh zJ_285 (i := (1, 1, 0, 0)) rfl rfl (k' := 29) (lo' := [(3, .int x), (0, .ref a), (1, .int hr), (2, .int v)]) (st' := [.int hr, .int x, .ref wb]) (h' := h3) rfl ?_
          obtain ⟨T4, F4⟩ := zwr (ms := zMlf) T3 hb2 hfb (i := x.toNatClampNeg) (x := hr) (by rw [znat hi]; omega) (zst_ok (a := (0, 0, 23)) (ilo := 0) (ihi := 5) (by decide +kernel) ⟨hr, rfl, r1, r2⟩ (by omega) (by rw [znat hi]; omega)) (zcv_ok (lo := 0) (hi := 5) (by decide +kernel) (by omega) (by rw [znat hi]; omega))
          have nab : wb ≠ a := fun e => by have q := X2 a 20 ha0; rw [← e, hb2] at q; cases q
          have nbc : wb ≠ wc := fun e => by have q := hwc; rw [← e, hb2] at q; cases q
          have he4 := (zset_ne (h := h3) (e := .inl (0, (6, .inl (upd fb x.toNatClampNeg hr)))) nab).trans he3
          have hfc4 := (zset_ne (h := h3) (e := .inl (0, (6, .inl (upd fb x.toNatClampNeg hr)))) nbc).trans hfc
          refine zh_iast zJ_285 (z := 0) rfl (k' := 30) rfl hfb (by omega) (by omega) ?_
          generalize h3.set wb (.inl (0, (6, .inl (upd fb x.toNatClampNeg hr)))) = h4 at T4 F4 he4 hfc4 ⊢
          refine zh zJ_285 (i := (2, 0, 0, 0)) rfl rfl (k' := 31) (lo' := [(3, .int x), (0, .ref a), (1, .int hr), (2, .int v)]) (st' := [.ref a]) (h' := h4) rfl ?_
          refine zh_get zJ_285 (a := a) (b := 21) (c := 9) (z := 0) rfl (k' := 32) rfl he4 q21 ?_
          refine zh zJ_285 (i := (1, 3, 0, 0)) rfl rfl (k' := 33) (lo' := [(3, .int x), (0, .ref a), (1, .int hr), (2, .int v)]) (st' := [.int x, .ref wc]) (h' := h4) rfl ?_
          refine zh zJ_285 (i := (1, 2, 0, 0)) rfl rfl (k' := 34) (lo' := [(3, .int x), (0, .ref a), (1, .int hr), (2, .int v)]) (st' := [.int v, .int x, .ref wc]) (h' := h4) rfl ?_
          have vb : -1 ≤ v.toInt ∧ v.toInt ≤ 5 := by rcases V with q | q <;> omega
          obtain ⟨T5, F5⟩ := zwr (ms := zMlf) T4 hwc hfc4 (i := x.toNatClampNeg) (x := v) (by rw [znat hi]; omega) (zst_ok (a := (0, -1, 5)) (ilo := 0) (ihi := 5) (by decide +kernel) ⟨v, rfl, vb.1, vb.2⟩ (by omega) (by rw [znat hi]; omega)) (zcv_ok (lo := 0) (hi := 5) (by decide +kernel) (by omega) (by rw [znat hi]; omega))
          have he5 := (zset_ne (h := h4) (e := .inl (0, (6, .inl (upd fc x.toNatClampNeg v)))) nac.symm).trans he4
          have hfc5 := zset_eq (e := .inl (0, (6, .inl (upd fc x.toNatClampNeg v)))) hfc4
          refine zh_iast zJ_285 (z := 0) rfl (k' := 35) rfl hfc4 (by omega) (by omega) ?_
          generalize h4.set wc (.inl (0, (6, .inl (upd fc x.toNatClampNeg v)))) = h5 at T5 F5 he5 hfc5 ⊢
          have G5 : zFm zMlf ty0 h0 h5 := ((G2.tr X2 F3).tr X2 F4).tr X2 F5
          have E5 : zE1 ty2 h5 := zE1_stable (ms := zMlf) (by decide +kernel) ty2 h2 h5 T2 T5 (T2.len T5) ((F3.tr zExt.rf F4).tr zExt.rf F5) E2
          have hfcf : ∀ i, i < 6 → fc i = cf i := fun i hi => by
            have q := k5 i hi
            rw [z_rd0, if_pos hi] at q
            exact Value.int.inj (Option.some.inj q)
          have S5 : zSe h5 a (s ||| (Int32.ofInt (1) <<< (x &&& 31))) (upd cf x.toInt.toNat v) := ⟨_, _, wc, he5, q22, q21, hfc5, fun i9 hi9 => by
            rw [z_rd0, if_pos hi9]
            unfold upd
            rw [show x.toNatClampNeg = x.toInt.toNat from rfl, hfcf i9 hi9]⟩
          have C5 : zChn (s ||| (Int32.ofInt (1) <<< (x &&& 31))) (upd cf x.toInt.toNat v) := zChn_add C (by omega) hx6 hnb V
          have hb5 := (zbit_or (s := s) (f := x) C.1.1 C.1.2 (by omega) hx6).2
          have V5 : v.toInt = -1 ∨ (0 ≤ v.toInt ∧ v.toInt < 6 ∧ zbit (s ||| (Int32.ofInt (1) <<< (x &&& 31))) v = true) := V.imp id (fun q => ⟨q.1, q.2.1, (hb5 v q.1 q.2.1).mpr (Or.inr q.2.2)⟩)
          have B5 : zbit (s ||| (Int32.ofInt (1) <<< (x &&& 31))) x = true := (hb5 x (by omega) hx6).mpr (Or.inl rfl)
          generalize s ||| (Int32.ofInt (1) <<< (x &&& 31)) = s5 at q22 S5 C5 V5 B5
          obtain ⟨wg, hg1, hg2⟩ := zfd2 (b := 19) (u := 30) T5 (X2 a 20 ha0) he5 (by omega) (by decide +kernel)
          obtain ⟨fg, hfg⟩ := zcell1 (n := 6) T5 hg2 rfl rfl
          refine zh zJ_285 (i := (2, 0, 0, 0)) rfl rfl (k' := 36) (lo' := [(3, .int x), (0, .ref a), (1, .int hr), (2, .int v)]) (st' := [.ref a]) (h' := h5) rfl ?_
          refine zh_get zJ_285 (a := a) (b := 19) (c := 9) (z := 0) rfl (k' := 37) rfl he5 hg1 ?_
          refine zh zJ_285 (i := (1, 3, 0, 0)) rfl rfl (k' := 38) (lo' := [(3, .int x), (0, .ref a), (1, .int hr), (2, .int v)]) (st' := [.int x, .ref wg]) (h' := h5) rfl ?_
          refine zh_iald zJ_285 (z := 0) rfl (k' := 39) rfl hfg (by omega) (by omega) ?_
          refine zh zJ_285 (i := (2, 0, 0, 0)) rfl rfl (k' := 40) (lo' := [(3, .int x), (0, .ref a), (1, .int hr), (2, .int v)]) (st' := [.ref a, .int (fg x.toNatClampNeg)]) (h' := h5) rfl ?_
          refine zh zJ_285 (i := (1, 3, 0, 0)) rfl rfl (k' := 41) (lo' := [(3, .int x), (0, .ref a), (1, .int hr), (2, .int v)]) (st' := [.int x, .ref a, .int (fg x.toNatClampNeg)]) (h' := h5) rfl ?_
          refine zh_con zJ_285 (i := (54, 243, 1, 9)) (rest := [.int (fg x.toNatClampNeg)]) (as := [.ref a, .int x]) rfl (by decide) (zcal54 (xs := [.int x]) (by omega) rfl rfl he5 rfl (Nat.le_of_ble_eq_true rfl) (M' := z_m243) rfl (Nat.le_of_ble_eq_true rfl)) (zck_ok (zE1_stable (by decide +kernel)) H zK_shr) rfl (by show 10 + 1 ≤ d; omega) rfl ⟨rfl, rfl⟩ T5 E5 ⟨⟨_, 20, rfl, X2 a 20 ha0, Int.le_refl _, Int.le_refl _⟩, ⟨x, rfl, by omega, by omega⟩, trivial⟩ (fun ty6 h6 v6 Y6 T6 E6 F6 R6 => ?_)
          obtain ⟨u6, rfl, sh, rfl, -, -⟩ := zRt1 R6
          have X6 := X2.tr Y6
          have S6 := S5.keep T5 (X2 a 20 ha0) F6 (fun _ _ _ => zno20 rfl) (fun _ => zno20 rfl)
          have G6 : zFm zMlf ty0 h0 h6 := G5.tr X2 (F6.mono (fun _ _ q => absurd q (zno20 rfl)))
          show z_ok sx d 285 42 [(3, .int x), (0, .ref a), (1, .int hr), (2, .int v)] [.int sh, .int (fg x.toNatClampNeg)] h6 _
          refine zh_icmp zJ_285 (a := 45) (b := 3) (z := 0) rfl (fun hc => ?_) (fun hc => ?_)
          · refine zh zJ_285 (i := (7, 3, 0, 1)) rfl rfl (k' := 46) (lo' := [(3, .int (x + Int32.ofInt (1))), (0, .ref a), (1, .int hr), (2, .int v)]) (st' := []) (h' := h6) rfl ?_
            refine zh zJ_285 (i := (30, 2, 0, 0)) rfl rfl (k' := 2) (lo' := [(3, .int (x + Int32.ofInt (1))), (0, .ref a), (1, .int hr), (2, .int v)]) (st' := []) (h' := h6) rfl ?_
            exact ih ty6 h6 (i + 1) _ s5 _ X6 T6 E6 G6 (zinc hi (by omega)) (by omega) (by omega) S6 C5 V5
          · refine zh zJ_285 (i := (1, 3, 0, 0)) rfl rfl (k' := 44) (lo' := [(3, .int x), (0, .ref a), (1, .int hr), (2, .int v)]) (st' := [.int x]) (h' := h6) rfl ?_
            refine zh_iret zJ_285 (a := 0) (b := 0) (z := 0) rfl (Or.inl rfl) ?_
            exact ⟨rfl, rfl, ty6, _, s5, _, X6, T6, E6, G6, rfl, S6, C5, Or.inr ⟨by omega, hx6, B5⟩⟩
        · refine zh zJ_285 (i := (30, 45, 0, 0)) rfl rfl (k' := 45) (lo' := [(3, .int x), (0, .ref a), (1, .int hr), (2, .int v)]) (st' := []) (h' := h2) rfl ?_
          refine zh zJ_285 (i := (7, 3, 0, 1)) rfl rfl (k' := 46) (lo' := [(3, .int (x + Int32.ofInt (1))), (0, .ref a), (1, .int hr), (2, .int v)]) (st' := []) (h' := h2) rfl ?_
          refine zh zJ_285 (i := (30, 2, 0, 0)) rfl rfl (k' := 2) (lo' := [(3, .int (x + Int32.ofInt (1))), (0, .ref a), (1, .int hr), (2, .int v)]) (st' := []) (h' := h2) rfl ?_
          exact ih ty2 h2 (i + 1) _ s cf X2 T2 E2 G2 (zinc hi (by omega)) (by omega) (by omega) S2 C V
end
