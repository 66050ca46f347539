/-! deed, law, who: the tapes are empty behind them; printed with wip/gen/gen_tape.py -/
theorem zok_gx {sx : zX} {d j k : Nat} {lo : zL} {h : zH} {Φ : zO → zH → Nat → Nat → Prop} (H : z_ok sx d j k lo [] h Φ) : zGo sx d Φ [(j, k, lo, [])] h 0 0 := H
/-- the class's tape is emptied -/
theorem zemp {sx : zX} {d j k k1 k2 k3 k4 : Nat} {lo : zL} {h : zH} {Φ : zO → zH → Nat → Nat → Prop} {M : zMi} {cs : List zI} {hs : List zHd} {ty : List Nat} {ax : Nat} (J : zJ3 j M cs hs) (i0 : cs[k]? = some (2, 0, 0, 0)) (e1 : k + 1 = k1) (i1 : cs[k1]? = some (37, 8, 0, 0)) (e2 : k1 + 1 = k2) (i2 : cs[k2]? = some (0, 0, 0, 0)) (e3 : k2 + 1 = k3) (i3 : cs[k3]? = some (38, 6, 1, 0)) (e4 : k3 + 1 = k4) (g0 : z_get lo 0 = some (.ref ax)) (ha : ty[ax]? = some 1) (T : zTY z_tt ty h) (E : zE1 ty h) (kk : ∀ h', zTY z_tt ty h' → zE1 ty h' → zFm [(2, 1, 1)] ty h h' → zTp ty h' ax 0 → z_ok sx d j k4 lo [] h' Φ) : z_ok sx d j k lo [] h Φ := by
  obtain ⟨fs, he, hl⟩ := zcell0 (c := 8) (n := 8) T ha rfl rfl rfl
  obtain ⟨t, f0, ht⟩ := zfd2 (b := 0) (u := 2) T ha he (by omega) (by decide +kernel)
  obtain ⟨ts, het, hlt⟩ := zcell0 (c := 6) (n := 4) T ht rfl rfl rfl
  refine zh_ald J i0 e1 g0 ?_
  refine zh_get J i1 e2 he f0 ?_
  refine zh J i2 rfl (k' := k3) (lo' := lo) (st' := [.int (Int32.ofInt (0)), .ref t]) (h' := h) (by rw [← e3]; rfl) ?_
  refine zputT J i3 e4 T E ht het (by omega) (zK0 (n := 0) (by decide) (by decide)) (by decide +kernel) [(2, 1, 1)] (by decide +kernel) (by decide +kernel) rfl (fun h1 T1 E1 F1 he1 hq1 => ?_)
  have hn : ax ≠ t := fun e => by rw [e, ht] at ha; cases ha
  exact kk h1 T1 E1 F1 ⟨_, _, t, _, (hq1 ax hn).trans he, f0, ht, he1, List.getElem?_set_self (by omega), rfl⟩
noncomputable def zEd (ty : List Nat) (h : zH) (ax : Nat) (ms : List zMod) (kx ky : Nat) (es : List Nat) : zO → zH → Nat → Nat → Prop := fun o h' x y => ∃ ty', zExt ty ty' ∧ zTY z_tt ty' h' ∧ zE1 ty' h' ∧ zFm ms ty h h' ∧ zTp ty' h' ax 0 ∧ (match o with
  | .inl v => (∃ c : Int32, v = some (.int c)) ∧ x ≤ kx ∧ y ≤ ky
  | .inr E => E ∈ es ∧ x ≤ 1 ∧ y ≤ 6)
/-- what a contract's end gives, where the tape is empty already -/
theorem zEd_of {ct : zCt} {A : Int × Int} {ty ty1 : List Nat} {h h1 : zH} {ax kx ky : Nat} {ms : List zMod} {es : List Nat} (hR : zcR ct = [(0, A.1, A.2)]) (hE : ∀ e ∈ zcE ct, e ∈ es) (hK : (zcK ct).1 ≤ kx ∧ (zcK ct).2.1 ≤ ky ∧ (zcK ct).2.2.1 ≤ 1 ∧ (zcK ct).2.2.2 ≤ 6) (hM : zWide (zcM ct) ms = true) (h10 : ¬ zIn (zcM ct) 1 0) (h21 : ¬ zIn (zcM ct) 2 1) (ha : ty1[ax]? = some 1) (X : zExt ty ty1) (F : zFm ms ty h h1) (P : zTp ty1 h1 ax 0) : ∀ o h' x y, zPo z_tt zE1 ct ty1 h1 o h' x y → zEd ty h ax ms kx ky es o h' x y := by
  rintro o h' x y ⟨ty', X', T', E', F', q⟩
  refine ⟨ty', X.tr X', T', E', F.tr X (F'.wide hM), P.keep ha T' X' F' h10 h21, ?_⟩
  cases o with
  | inl v =>
    obtain ⟨q1, q2, q3⟩ := q
    rw [hR] at q1
    cases v with
    | none => exact q1.elim
    | some v =>
      obtain ⟨c, rfl, -⟩ := q1
      exact ⟨⟨c, rfl⟩, by omega, by omega⟩
  | inr e => exact ⟨hE e q.1, by omega, by omega⟩
theorem zJ_120 : zJ3 120 z_m120 z_c120 z_h120 := ⟨rfl, rfl, rfl⟩
noncomputable def zC_d1 : zCt := (120, [(2, 1, 1)], [(0, 1, 0)], [], [(1, 7, 7), (2, 1, 3), (8, 5, 17), (9, 4, 4), (10, 0, 5), (11, 2, 3), (12, 0, 7), (13, 1, 2), (14, 0, 299), (16, 0, 23), (17, 2, 2)], 12, (0, 0, 0, 0), [])
noncomputable def zC_d2 : zCt := (120, [(2, 1, 1)], [zFull], [0, 1], [(8, 5, 17), (9, 4, 4), (10, 0, 5), (11, 2, 3), (12, 0, 7), (13, 1, 2), (14, 0, 299), (16, 0, 23), (17, 2, 2)], 12, (0, 0, 1, 6), [])
noncomputable def zD0 : zCut := (0, [(0, (2, 1, 1))], [], [])
noncomputable def zD16 : zCut := (16, [(0, (2, 1, 1))], [], [])
noncomputable def zDg : zTk := ((12, [], [], []), [0])
theorem zK_d1 : zxs z_tt zCtl zCand 72 zC_d1 (zstop4 [zDg]) (zht4 z_tt zC_d1 zD0 [zDg]) 4000 (zc_st zC_d1 zD0) = true := by decide +kernel
theorem zK_d2 : zxs z_tt zCtl zCand 72 zC_d2 (zstop4 []) (zht4 z_tt zC_d2 zD16 []) 4000 (zc_st zC_d2 zD16) = true := by decide +kernel
set_option maxRecDepth 100000 in
theorem zS_120 {sx : zX} {d : Nat} {ty : List Nat} {h : zH} {ax : Nat} (H : ∀ c, c < 72 → ∀ c', zCtl[c]? = some c' → zVd z_tt zE1 c') (hd : 12 ≤ d) (T : zTY z_tt ty h) (E : zE1 ty h) (ha : ty[ax]? = some 1) : z_ok sx d 120 0 (lv_args 0 [.ref ax]) [] h (zEd ty h ax [(1, 7, 7), (2, 1, 3), (8, 5, 17), (9, 4, 4), (10, 0, 5), (11, 2, 3), (12, 0, 7), (13, 1, 2), (14, 0, 299), (16, 0, 23), (17, 2, 2)] 0 0 [0, 1]) := by
  show z_ok sx d 120 0 [(0, .ref ax)] [] h _
  refine zok_go ?_
  refine zseg4 (ct := zC_d1) (c0 := zD0) (gs := [zDg]) (d0 := d) (ty0 := ty) (h0 := h) (vl := [.ref ax]) (vm := []) (zE1_stable (by decide +kernel)) hd H (zPo_no rfl rfl _) zK_d1 zExt.rf T E zFm.rf ⟨rfl, ⟨ax, 1, rfl, ha, Int.le_refl _, Int.le_refl _⟩, trivial⟩ trivial (fun g hg ty1 lo1 h1 vl' vm' X1 T1 E1 F1 V W R K => ?_)
  rw [List.mem_singleton.mp hg] at K ⊢
  have g0 := (K 0 (by decide)).trans (show z_get _ 0 = some (.ref ax) from rfl)
  have ha1 := X1 ax 1 ha
  refine zok_gx ?_
  refine zemp (k4 := 16) zJ_120 rfl rfl rfl rfl rfl rfl rfl rfl g0 ha1 T1 E1 (fun h2 T2 E2 F2 P2 => ?_)
  refine zok_go ?_
  exact zseg4 (ct := zC_d2) (c0 := zD16) (gs := []) (d0 := d) (ty0 := ty1) (h0 := h2) (vl := [.ref ax]) (vm := []) (zE1_stable (by decide +kernel)) hd H (zEd_of (A := (-2147483648, 2147483647)) rfl (by decide) (by decide) (by decide +kernel) (zNin _ _ _ (by decide +kernel)) (zNin _ _ _ (by decide +kernel)) ha1 X1 (F1.tr X1 (F2.wide (by decide +kernel))) P2) zK_d2 zExt.rf T2 E2 zFm.rf ⟨g0, ⟨ax, 1, rfl, ha1, Int.le_refl _, Int.le_refl _⟩, trivial⟩ trivial (fun g hg => absurd hg List.not_mem_nil)
theorem zJ_146 : zJ3 146 z_m146 z_c146 z_h146 := ⟨rfl, rfl, rfl⟩
noncomputable def zC_w1 : zCt := (146, [(2, 1, 1), (0, 0, 1)], [(0, 1, 0)], [], [(2, 1, 1)], 6, (0, 0, 0, 0), [])
noncomputable def zC_w2 : zCt := (146, [(2, 1, 1), (0, 0, 1)], [zFull], [0], [], 6, (0, 0, 1, 6), [])
noncomputable def zW0 : zCut := (0, [(0, (2, 1, 1)), (1, (0, 0, 1))], [], [])
noncomputable def zW19 : zCut := (19, [(0, (2, 1, 1)), (2, (0, 0, 1)), (3, zFull)], [], [])
noncomputable def zWg : zTk := ((15, [(2, (0, 0, 1)), (3, zFull)], [], []), [0])
theorem zK_w1 : zxs z_tt zCtl zCand 151 zC_w1 (zstop4 [zWg]) (zht4 z_tt zC_w1 zW0 [zWg]) 4000 (zc_st zC_w1 zW0) = true := by decide +kernel
theorem zK_w2 : zxs z_tt zCtl zCand 151 zC_w2 (zstop4 []) (zht4 z_tt zC_w2 zW19 []) 4000 (zc_st zC_w2 zW19) = true := by decide +kernel
set_option maxRecDepth 100000 in
theorem zS_146 {sx : zX} {d : Nat} {ty : List Nat} {h : zH} {ax : Nat} {v : Int32} (H : ∀ c, c < 151 → ∀ c', zCtl[c]? = some c' → zVd z_tt zE1 c') (hd : 6 ≤ d) (T : zTY z_tt ty h) (E : zE1 ty h) (ha : ty[ax]? = some 1) (hv : 0 ≤ v.toInt ∧ v.toInt ≤ 1) : z_ok sx d 146 0 (lv_args 0 [.ref ax, .int v]) [] h (zEd ty h ax [(2, 1, 1)] 0 0 [0]) := by
  show z_ok sx d 146 0 [(0, .ref ax), (1, .int v)] [] h _
  refine zok_go ?_
  refine zseg4 (ct := zC_w1) (c0 := zW0) (gs := [zWg]) (d0 := d) (ty0 := ty) (h0 := h) (vl := [.ref ax, .int v]) (vm := []) (zE1_stable (by decide +kernel)) hd H (zPo_no rfl rfl _) zK_w1 zExt.rf T E zFm.rf ⟨rfl, ⟨ax, 1, rfl, ha, Int.le_refl _, Int.le_refl _⟩, rfl, ⟨v, rfl, hv.1, hv.2⟩, trivial⟩ trivial (fun g hg ty1 lo1 h1 vl' vm' X1 T1 E1 F1 V W R K => ?_)
  rw [List.mem_singleton.mp hg] at V K ⊢
  match vl', V with
  | [u2, u3], V =>
  obtain ⟨k2, G2, k3, G3, -⟩ := V
  have g0 := (K 0 (by decide)).trans (show z_get _ 0 = some (.ref ax) from rfl)
  have ha1 := X1 ax 1 ha
  refine zok_gx ?_
  refine zemp (k4 := 19) zJ_146 rfl rfl rfl rfl rfl rfl rfl rfl g0 ha1 T1 E1 (fun h2 T2 E2 F2 P2 => ?_)
  refine zok_go ?_
  exact zseg4 (ct := zC_w2) (c0 := zW19) (gs := []) (d0 := d) (ty0 := ty1) (h0 := h2) (vl := [.ref ax, u2, u3]) (vm := []) (zE1_stable (by decide +kernel)) hd H (zEd_of (A := (-2147483648, 2147483647)) rfl (by decide) (by decide) (by decide +kernel) (zNin _ _ _ (by decide +kernel)) (zNin _ _ _ (by decide +kernel)) ha1 X1 (F1.tr X1 F2) P2) zK_w2 zExt.rf T2 E2 zFm.rf ⟨g0, ⟨ax, 1, rfl, ha1, Int.le_refl _, Int.le_refl _⟩, k2, G2, k3, G3, trivial⟩ trivial (fun g hg => absurd hg List.not_mem_nil)
/-- a call by a contract that throws nothing and makes nothing; the heap has no more cells -/
theorem zh_conL {sx : zX} {d j k : Nat} {lo : zL} {st rest : List Value} {h : zH} {Ψ : zO → zH → Nat → Nat → Prop} {M : zMi} {cs : List zI} {hs : List zHd} {j' : Nat} {as : List Value} {i : zI} {ct : zCt} {ty : List Nat} (J : zJ3 j M cs hs) (hi : cs[k]? = some i) (hn : i.1 ≠ 50 ∧ i.1 ≠ 51 ∧ i.1 ≠ 52 ∧ i.1 ≠ 53 ∧ i.1 ≠ 62) (hc : z_cal i d st h = some (j', as, rest)) (V : zVd z_tt zE1 ct) (hj : zcJ ct = j') (hd : zcD ct + 1 ≤ d) (he : zcE ct = []) (hk : (zcK ct).1 = 0 ∧ (zcK ct).2.1 = 0) (T : zTY z_tt ty h) (E : zE1 ty h) (hA : zAg ty (zcA ct) as) (kk : ∀ (ty' : List Nat) (h' : zH) (v : Option Value), zExt ty ty' → zTY z_tt ty' h' → zE1 ty' h' → zFm (zcM ct) ty h h' → zRt ty' (zcR ct) v → h'.length ≤ h.length → z_ok sx d j (k + 1) lo (v.toList ++ rest) h' Ψ) : z_ok sx d j k lo st h Ψ := by
  subst hj
  refine zh_run J hi hn hc (z_ok.len (V sx (d - 1) ty h as (by omega) T E hA)) (fun o h' x y q => ?_)
  obtain ⟨⟨ty', q1, q2, q3, q4, q5⟩, q8⟩ := q
  cases o with
  | inl v =>
    obtain ⟨q5, q6, q7⟩ := q5
    exact ⟨v, rfl, by omega, by omega, kk ty' h' v q1 q2 q3 q4 q5 (by omega)⟩
  | inr e =>
    rw [he] at q5
    exact absurd q5.1 List.not_mem_nil
theorem zh_throw {sx : zX} {d j k a b : Nat} {z : Int} {lo : zL} {st : List Value} {h : zH} {Ψ : zO → zH → Nat → Nat → Prop} {M : zMi} {cs : List zI} {hs : List zHd} (J : zJ3 j M cs hs) (hi : cs[k]? = some (62, a, b, z)) (hd : 6 ≤ d) (hz : z_cat st ≤ 8) (kk : Ψ (.inr a) h 1 6) : z_ok sx d j k lo st h Ψ := by
  refine z_ok.fin J.1 J.2.1 J.2.2 hi ?_ kk
  rw [z_fin62 rfl]
  exact if_pos ⟨hd, hz⟩
theorem zJ_121 : zJ3 121 z_m121 z_c121 z_h121 := ⟨rfl, rfl, rfl⟩
noncomputable def zC_l3 : zCt := (121, [(2, 1, 1)], [(0, 0, 12)], [], [(8, 5, 5), (17, 2, 2)], 31, (0, 0, 0, 0), [])
noncomputable def zL24 : zCut := (24, [(0, (2, 1, 1)), (1, (2, 100, 112))], [], [])
theorem zK_l3 : zxs z_tt zCtl zCand 105 zC_l3 (zstop4 []) (zht4 z_tt zC_l3 zL24 []) 4000 (zc_st zC_l3 zL24) = true := by decide +kernel
set_option maxRecDepth 100000 in
theorem zS_121 {sx : zX} {d : Nat} {ty : List Nat} {h : zH} {ax : Nat} (H : ∀ c, c < 105 → ∀ c', zCtl[c]? = some c' → zVd z_tt zE1 c') (hd : 31 ≤ d) (T : zTY z_tt ty h) (E : zE1 ty h) (ha : ty[ax]? = some 1) (hB : h.length + 6 ≤ zB) : z_ok sx d 121 0 (lv_args 0 [.ref ax]) [] h (zEd ty h ax [(1, 7, 7), (2, 1, 3), (4, 4, 5), (5, 0, 11), (6, 0, 11), (7, 0, 399), (8, 5, 5), (17, 2, 2)] 6 900 [0]) := by
  show z_ok sx d 121 0 [(0, .ref ax)] [] h _
  obtain ⟨fs, he, hl⟩ := zcell0 (c := 8) (n := 8) T ha rfl rfl rfl
  obtain ⟨r, f1, hr⟩ := zfd2 (b := 1) (u := 4) T ha he (by omega) (by decide +kernel)
  obtain ⟨t, f0, ht⟩ := zfd2 (b := 0) (u := 2) T ha he (by omega) (by decide +kernel)
  obtain ⟨rs, her, hlr⟩ := zcell0 (c := 3) (n := 6) T hr rfl rfl rfl
  refine zh zJ_121 (i := (2, 0, 0, 0)) rfl rfl (k' := 1) (lo' := [(0, .ref ax)]) (st' := [.ref ax]) (h' := h) rfl ?_
  refine zh zJ_121 (i := (2, 0, 0, 0)) rfl rfl (k' := 2) (lo' := [(0, .ref ax)]) (st' := [.ref ax, .ref ax]) (h' := h) rfl ?_
  refine zh_get zJ_121 (b := 1) (c := 8) (z := 0) rfl (k' := 3) rfl he f1 ?_
  refine zh zJ_121 (i := (2, 0, 0, 0)) rfl rfl (k' := 4) (lo' := [(0, .ref ax)]) (st' := [.ref ax, .ref r, .ref ax]) (h' := h) rfl ?_
  refine zh_get zJ_121 (b := 0) (c := 8) (z := 0) rfl (k' := 5) rfl he f0 ?_
  refine zh_conL (as := [.ref r, .ref t]) (rest := [.ref ax]) (ct := zC104) zJ_121 (i := (54, 47, 1, 3)) rfl (by decide) (zcal54 (xs := [.ref t]) (by omega) rfl rfl her rfl (Nat.le_of_ble_eq_true rfl) (M' := z_m47) rfl (Nat.le_of_ble_eq_true rfl)) (H 104 (by omega) _ rfl) rfl (by show 23 + 1 ≤ d; omega) rfl ⟨rfl, rfl⟩ T E ⟨⟨r, 4, rfl, hr, Int.le_refl _, Int.le_refl _⟩, ⟨t, 2, rfl, ht, Int.le_refl _, Int.le_refl _⟩, trivial⟩ (fun ty1 h1 v X1 T1 E1 F1 V1 L1 => ?_)
  match v, V1 with
  | some v, V1 =>
  obtain ⟨c, rfl, -⟩ := V1
  have ha1 := X1 ax 1 ha
  obtain ⟨fs1, he1, hl1⟩ := zcell0 (c := 8) (n := 8) T1 ha1 rfl rfl rfl
  show z_ok sx d 121 6 [(0, .ref ax)] [.int c, .ref ax] h1 _
  refine zputT zJ_121 (k' := 7) rfl rfl T1 E1 ha1 he1 (by omega) (zFull_ok c) (by decide +kernel) [(1, 7, 7)] (by decide +kernel) (by decide +kernel) rfl (fun h2 T2 E2 F2 he2 hq2 => ?_)
  refine zemp (k4 := 11) zJ_121 rfl rfl rfl rfl rfl rfl rfl rfl rfl ha1 T2 E2 (fun h3 T3 E3 F3 P3 => ?_)
  have F03 : zFm [(1, 7, 7), (2, 1, 3), (4, 4, 5), (5, 0, 11), (6, 0, 11), (7, 0, 399), (8, 5, 5), (17, 2, 2)] ty h h3 := ((F1.wide (by decide +kernel)).tr X1 (F2.wide (by decide +kernel))).tr X1 (F3.wide (by decide +kernel))
  have L3 : h3.length ≤ h.length := by rw [T3.len T1]; exact L1
  obtain ⟨fs3, he3, hl3⟩ := zcell0 (c := 8) (n := 8) T3 ha1 rfl rfl rfl
  obtain ⟨x7, f7, -⟩ := zfd0 (b := 7) (lo := -2147483648) (hi := 2147483647) T3 ha1 he3 (by omega) (by decide +kernel)
  obtain ⟨r3, f13, hr3⟩ := zfd2 (b := 1) (u := 4) T3 ha1 he3 (by omega) (by decide +kernel)
  obtain ⟨rs3, her3, hlr3⟩ := zcell0 (c := 3) (n := 6) T3 hr3 rfl rfl rfl
  refine zh zJ_121 (i := (2, 0, 0, 0)) rfl rfl (k' := 12) (lo' := [(0, .ref ax)]) (st' := [.ref ax]) (h' := h3) rfl ?_
  refine zh_get zJ_121 (b := 7) (c := 8) (z := 0) rfl (k' := 13) rfl he3 f7 ?_
  refine zh zJ_121 (i := (0, 0, 0, -1)) rfl rfl (k' := 14) (lo' := [(0, .ref ax)]) (st' := [.int (Int32.ofInt (-1)), .int x7]) (h' := h3) rfl ?_
  refine zh_icmp zJ_121 (a := 20) (b := 0) (z := 0) rfl (fun hc1 => ?_) (fun hc1 => ?_)
  · refine zh zJ_121 (i := (2, 0, 0, 0)) rfl rfl (k' := 21) (lo' := [(0, .ref ax)]) (st' := [.ref ax]) (h' := h3) rfl ?_
    refine zh_get zJ_121 (b := 1) (c := 8) (z := 0) rfl (k' := 22) rfl he3 f13 ?_
    refine z_ok.call zJ_121.1 zJ_121.2.1 zJ_121.2.2 (i := (54, 48, 0, 3)) rfl (z_fin_no (by decide)) (zcal54 (xs := []) (rest := []) (by omega) rfl rfl her3 rfl (Nat.le_of_ble_eq_true rfl) (M' := z_m48) rfl (Nat.le_of_ble_eq_true rfl)) (z_ok.imp (zS_48 (sx := sx) (d := d - 1) (by omega) T3 E3 hr3 (by omega)) (fun o h4 a b q => ?_))
    obtain ⟨ty4, L, rfl, X4, T4, E4, F4, qa, qb, hL, hL2⟩ := q
    show z_ok sx d 121 23 [(0, .ref ax)] [.ref h3.length] h4 _
    refine zh zJ_121 (i := (5, 1, 0, 0)) rfl rfl (k' := 24) (lo' := [(1, .ref h3.length), (0, .ref ax)]) (st' := []) (h' := h4) rfl ?_
    have ha4 := X4 ax 1 ha1
    have P4 := P3.keep ha1 T4 X4 F4 (zNin _ _ _ (by decide +kernel)) (zNin _ _ _ (by decide +kernel))
    refine z_ok.imp (zok_go (zseg4 (ct := zC_l3) (c0 := zL24) (gs := []) (d0 := d) (ty0 := ty4) (h0 := h4) (vl := [.ref ax, .ref h3.length]) (vm := []) (zE1_stable (by decide +kernel)) hd H (zEd_of (A := (0, 12)) (kx := 0) (ky := 0) (es := []) rfl (by decide) (by decide) (by decide +kernel) (zNin _ _ _ (by decide +kernel)) (zNin _ _ _ (by decide +kernel)) ha4 (X1.tr X4) (F03.tr X1 (F4.wide (by decide +kernel))) P4) zK_l3 zExt.rf T4 E4 zFm.rf ⟨rfl, ⟨ax, 1, rfl, ha4, Int.le_refl _, Int.le_refl _⟩, rfl, ⟨_, 100 + L, rfl, hL, by omega, by omega⟩, trivial⟩ trivial (fun g hg => absurd hg List.not_mem_nil))) (fun o h5 x y q => ?_)
    obtain ⟨ty5, X5, T5, E5, F5, P5, q⟩ := q
    refine ⟨ty5, X5, T5, E5, F5, P5, ?_⟩
    cases o with
    | inl v => exact ⟨q.1, by omega, by omega⟩
    | inr e => exact absurd q.1 List.not_mem_nil
  · refine zh_throw zJ_121 (a := 0) (b := 2) (z := 0) rfl (by omega) (Nat.zero_le _) ?_
    exact ⟨ty1, X1, T3, E3, F03, P3, List.mem_singleton.mpr rfl, Nat.le_refl _, Nat.le_refl _⟩
theorem zlstore {sx : zX} {d j k k' p q : Nat} {z : Int} {lo : zL} {h : zH} {Ψ : zO → zH → Nat → Nat → Prop} {M : zMi} {cs : List zI} {hs : List zHd} {ty : List Nat} {ao : Nat} {v : Int64} (J : zJ3 j M cs hs) (hi : cs[k]? = some (43, p, q, z)) (hk : k + 1 = k') (T : zTY z_tt ty h) (E : zE1 ty h) (ho : ty[ao]? = some 33) (kk : ∀ h', zTY z_tt ty h' → zE1 ty h' → zFm [(33, 0, 0)] ty h h' → z_ok sx d j k' lo [] h' Ψ) : z_ok sx d j k lo [.long v, .int (Int32.ofInt (0)), .ref ao] h Ψ := by
  obtain ⟨e, he, hs9, -⟩ := zcell T ho
  obtain ⟨f, rfl⟩ : ∃ f, e = .inl (2, (1, .inr (.inl f))) := by
    obtain ⟨f, hf⟩ := zsh3 hs9 rfl
    exact ⟨f, hf⟩
  have hs' : z_sh (z_tt 33) (.inl (2, (1, .inr (.inl (vp_updL f 0 v))))) := rfl
  have T' := T.wr (i := 0) (v := .long v) ho he hs' (z_rd_long (by omega)) (zst_ok (a := (1, -9223372036854775808, 9223372036854775807)) (ilo := 0) (ihi := 0) (by decide +kernel) ⟨v, rfl, (zb64 v).1, (zb64 v).2⟩ (by omega) (by omega))
  have F' := zFm.wr (ms := [(33, 0, 0)]) (i := 0) (v := .long v) ho he (z_rd_long (by omega)) ⟨_, List.mem_singleton.mpr rfl, rfl, by decide, by decide⟩
  refine zh J hi rfl ?_ (kk _ T' (zE1_stable (by decide +kernel) ty h _ T T' (T.len T') F' E) F')
  show zo_last sx d p q z k lo [.long v, .int (Int32.ofInt (0)), .ref ao] h = _
  unfold zo_last
  dsimp only
  rw [he, ← hk]
  rfl
noncomputable def zWr (ty : List Nat) (h : zH) (ax : Nat) (ms : List zMod) (kx ky : Nat) : zO → zH → Nat → Nat → Prop := fun o h' x y => ∃ (c : Int32) (ty' : List Nat), o = .inl (some (.int c)) ∧ zExt ty ty' ∧ zTY z_tt ty' h' ∧ zE1 ty' h' ∧ zFm ms ty h h' ∧ zTp ty' h' ax 0 ∧ x ≤ kx ∧ y ≤ ky
theorem zJ_315 : zJ3 315 z_m315 z_c315 z_h315 := ⟨rfl, rfl, rfl⟩
set_option maxRecDepth 100000 in
theorem zS_315 {sx : zX} {d : Nat} {ty : List Nat} {h : zH} {ax ao : Nat} (H : ∀ c, c < 72 → ∀ c', zCtl[c]? = some c' → zVd z_tt zE1 c') (hd : 13 ≤ d) (T : zTY z_tt ty h) (E : zE1 ty h) (ha : ty[ax]? = some 1) (ho : ty[ao]? = some 33) : z_ok sx d 315 0 (lv_args 0 [.ref ax, .ref ao]) [] h (zWr ty h ax [(1, 7, 7), (2, 1, 3), (8, 5, 17), (9, 4, 4), (10, 0, 5), (11, 2, 3), (12, 0, 7), (13, 1, 2), (14, 0, 299), (16, 0, 23), (17, 2, 2), (33, 0, 0)] 1 6) := by
  show z_ok sx d 315 0 [(0, .ref ax), (1, .ref ao)] [] h _
  obtain ⟨fs, he, hl⟩ := zcell0 (c := 8) (n := 8) T ha rfl rfl rfl
  refine zh zJ_315 (i := (2, 1, 0, 0)) rfl rfl (k' := 1) (lo' := [(0, .ref ax), (1, .ref ao)]) (st' := [.ref ao]) (h' := h) rfl ?_
  refine zh zJ_315 (i := (0, 0, 0, 0)) rfl rfl (k' := 2) (lo' := [(0, .ref ax), (1, .ref ao)]) (st' := [.int (Int32.ofInt (0)), .ref ao]) (h' := h) rfl ?_
  refine zh zJ_315 (i := (2, 0, 0, 0)) rfl rfl (k' := 3) (lo' := [(0, .ref ax), (1, .ref ao)]) (st' := [.ref ax, .int (Int32.ofInt (0)), .ref ao]) (h' := h) rfl ?_
  refine z_ok.call zJ_315.1 zJ_315.2.1 zJ_315.2.2 (i := (54, 120, 0, 8)) rfl (z_fin_no (by decide)) (zcal54 (xs := []) (rest := [.int (Int32.ofInt (0)), .ref ao]) (by omega) rfl rfl he rfl (Nat.le_of_ble_eq_true rfl) (M' := z_m120) rfl (Nat.le_of_ble_eq_true rfl)) (z_ok.imp (zS_120 (sx := sx) (d := d - 1) H (by omega) T E ha) (fun o h1 x y q => ?_))
  obtain ⟨ty1, X1, T1, E1, F1, P1, q⟩ := q
  have ha1 := X1 ax 1 ha
  have ho1 := X1 ao 33 ho
  cases o with
  | inl v =>
    obtain ⟨⟨c, rfl⟩, q1, q2⟩ := q
    show z_ok sx d 315 4 [(0, .ref ax), (1, .ref ao)] [.int c, .int (Int32.ofInt (0)), .ref ao] h1 _
    refine zh zJ_315 (i := (19, 0, 0, 0)) rfl rfl (k' := 5) (lo' := [(0, .ref ax), (1, .ref ao)]) (st' := [.long c.toInt64, .int (Int32.ofInt (0)), .ref ao]) (h' := h1) rfl ?_
    refine zlstore zJ_315 rfl (k' := 6) rfl T1 E1 ho1 (fun h2 T2 E2 F2 => ?_)
    refine zh zJ_315 (i := (30, 13, 0, 0)) rfl rfl (k' := 13) (lo' := [(0, .ref ax), (1, .ref ao)]) (st' := []) (h' := h2) rfl ?_
    refine zh zJ_315 (i := (0, 0, 0, 0)) rfl rfl (k' := 14) (lo' := [(0, .ref ax), (1, .ref ao)]) (st' := [.int (Int32.ofInt (0))]) (h' := h2) rfl ?_
    refine zh_iret zJ_315 (a := 0) (b := 0) (z := 0) rfl (Or.inl rfl) ?_
    exact ⟨_, ty1, rfl, X1, T2, E2, (F1.wide (by decide +kernel)).tr X1 (F2.wide (by decide +kernel)), P1.keep ha1 T2 zExt.rf F2 (zNin _ _ _ (by decide +kernel)) (zNin _ _ _ (by decide +kernel)), by omega, by omega⟩
  | inr e =>
    obtain ⟨q1, q2, q3⟩ := q
    rcases List.mem_cons.mp q1 with rfl | q1
    · refine ⟨rfl, ?_⟩
      show z_ok sx d 315 8 [(0, .ref ax), (1, .ref ao)] [] h1 _
      refine zh zJ_315 (i := (0, 0, 0, 1)) rfl rfl (k' := 9) (lo' := [(0, .ref ax), (1, .ref ao)]) (st' := [.int (Int32.ofInt (1))]) (h' := h1) rfl ?_
      refine zh_iret zJ_315 (a := 0) (b := 0) (z := 0) rfl (Or.inl rfl) ?_
      exact ⟨_, ty1, rfl, X1, T1, E1, F1.wide (by decide +kernel), P1, by omega, by omega⟩
    have q1 := List.mem_singleton.mp q1
    subst q1
    refine ⟨rfl, ?_⟩
    show z_ok sx d 315 11 [(0, .ref ax), (1, .ref ao)] [] h1 _
    refine zh zJ_315 (i := (0, 0, 0, 2)) rfl rfl (k' := 12) (lo' := [(0, .ref ax), (1, .ref ao)]) (st' := [.int (Int32.ofInt (2))]) (h' := h1) rfl ?_
    refine zh_iret zJ_315 (a := 0) (b := 0) (z := 0) rfl (Or.inl rfl) ?_
    exact ⟨_, ty1, rfl, X1, T1, E1, F1.wide (by decide +kernel), P1, by omega, by omega⟩
theorem zJ_316 : zJ3 316 z_m316 z_c316 z_h316 := ⟨rfl, rfl, rfl⟩
set_option maxRecDepth 100000 in
theorem zS_316 {sx : zX} {d : Nat} {ty : List Nat} {h : zH} {ax ao : Nat} (H : ∀ c, c < 105 → ∀ c', zCtl[c]? = some c' → zVd z_tt zE1 c') (hd : 32 ≤ d) (hB : h.length + 6 ≤ zB) (T : zTY z_tt ty h) (E : zE1 ty h) (ha : ty[ax]? = some 1) (ho : ty[ao]? = some 33) : z_ok sx d 316 0 (lv_args 0 [.ref ax, .ref ao]) [] h (zWr ty h ax [(1, 7, 7), (2, 1, 3), (4, 4, 5), (5, 0, 11), (6, 0, 11), (7, 0, 399), (8, 5, 5), (17, 2, 2), (33, 0, 0)] 6 900) := by
  show z_ok sx d 316 0 [(0, .ref ax), (1, .ref ao)] [] h _
  obtain ⟨fs, he, hl⟩ := zcell0 (c := 8) (n := 8) T ha rfl rfl rfl
  refine zh zJ_316 (i := (2, 1, 0, 0)) rfl rfl (k' := 1) (lo' := [(0, .ref ax), (1, .ref ao)]) (st' := [.ref ao]) (h' := h) rfl ?_
  refine zh zJ_316 (i := (0, 0, 0, 0)) rfl rfl (k' := 2) (lo' := [(0, .ref ax), (1, .ref ao)]) (st' := [.int (Int32.ofInt (0)), .ref ao]) (h' := h) rfl ?_
  refine zh zJ_316 (i := (2, 0, 0, 0)) rfl rfl (k' := 3) (lo' := [(0, .ref ax), (1, .ref ao)]) (st' := [.ref ax, .int (Int32.ofInt (0)), .ref ao]) (h' := h) rfl ?_
  refine z_ok.call zJ_316.1 zJ_316.2.1 zJ_316.2.2 (i := (54, 121, 0, 8)) rfl (z_fin_no (by decide)) (zcal54 (xs := []) (rest := [.int (Int32.ofInt (0)), .ref ao]) (by omega) rfl rfl he rfl (Nat.le_of_ble_eq_true rfl) (M' := z_m121) rfl (Nat.le_of_ble_eq_true rfl)) (z_ok.imp (zS_121 (sx := sx) (d := d - 1) H (by omega) T E ha hB) (fun o h1 x y q => ?_))
  obtain ⟨ty1, X1, T1, E1, F1, P1, q⟩ := q
  have ha1 := X1 ax 1 ha
  have ho1 := X1 ao 33 ho
  cases o with
  | inl v =>
    obtain ⟨⟨c, rfl⟩, q1, q2⟩ := q
    show z_ok sx d 316 4 [(0, .ref ax), (1, .ref ao)] [.int c, .int (Int32.ofInt (0)), .ref ao] h1 _
    refine zh zJ_316 (i := (19, 0, 0, 0)) rfl rfl (k' := 5) (lo' := [(0, .ref ax), (1, .ref ao)]) (st' := [.long c.toInt64, .int (Int32.ofInt (0)), .ref ao]) (h' := h1) rfl ?_
    refine zlstore zJ_316 rfl (k' := 6) rfl T1 E1 ho1 (fun h2 T2 E2 F2 => ?_)
    refine zh zJ_316 (i := (30, 10, 0, 0)) rfl rfl (k' := 10) (lo' := [(0, .ref ax), (1, .ref ao)]) (st' := []) (h' := h2) rfl ?_
    refine zh zJ_316 (i := (0, 0, 0, 0)) rfl rfl (k' := 11) (lo' := [(0, .ref ax), (1, .ref ao)]) (st' := [.int (Int32.ofInt (0))]) (h' := h2) rfl ?_
    refine zh_iret zJ_316 (a := 0) (b := 0) (z := 0) rfl (Or.inl rfl) ?_
    exact ⟨_, ty1, rfl, X1, T2, E2, (F1.wide (by decide +kernel)).tr X1 (F2.wide (by decide +kernel)), P1.keep ha1 T2 zExt.rf F2 (zNin _ _ _ (by decide +kernel)) (zNin _ _ _ (by decide +kernel)), by omega, by omega⟩
  | inr e =>
    obtain ⟨q1, q2, q3⟩ := q
    have q1 := List.mem_singleton.mp q1
    subst q1
    refine ⟨rfl, ?_⟩
    show z_ok sx d 316 8 [(0, .ref ax), (1, .ref ao)] [] h1 _
    refine zh zJ_316 (i := (0, 0, 0, 1)) rfl rfl (k' := 9) (lo' := [(0, .ref ax), (1, .ref ao)]) (st' := [.int (Int32.ofInt (1))]) (h' := h1) rfl ?_
    refine zh_iret zJ_316 (a := 0) (b := 0) (z := 0) rfl (Or.inl rfl) ?_
    exact ⟨_, ty1, rfl, X1, T1, E1, F1.wide (by decide +kernel), P1, by omega, by omega⟩
theorem zJ_333 : zJ3 333 z_m333 z_c333 z_h333 := ⟨rfl, rfl, rfl⟩
set_option maxRecDepth 100000 in
theorem zS_333 {sx : zX} {d : Nat} {ty : List Nat} {h : zH} {ax ao : Nat} {v : Int32} (H : ∀ c, c < 151 → ∀ c', zCtl[c]? = some c' → zVd z_tt zE1 c') (hd : 7 ≤ d) (hv : 0 ≤ v.toInt ∧ v.toInt ≤ 1) (T : zTY z_tt ty h) (E : zE1 ty h) (ha : ty[ax]? = some 1) (ho : ty[ao]? = some 33) : z_ok sx d 333 0 (lv_args 0 [.ref ax, .int v, .ref ao]) [] h (zWr ty h ax [(2, 1, 1), (33, 0, 0)] 1 6) := by
  show z_ok sx d 333 0 [(0, .ref ax), (1, .int v), (2, .ref ao)] [] h _
  obtain ⟨fs, he, hl⟩ := zcell0 (c := 8) (n := 8) T ha rfl rfl rfl
  refine zh zJ_333 (i := (2, 2, 0, 0)) rfl rfl (k' := 1) (lo' := [(0, .ref ax), (1, .int v), (2, .ref ao)]) (st' := [.ref ao]) (h' := h) rfl ?_
  refine zh zJ_333 (i := (0, 0, 0, 0)) rfl rfl (k' := 2) (lo' := [(0, .ref ax), (1, .int v), (2, .ref ao)]) (st' := [.int (Int32.ofInt (0)), .ref ao]) (h' := h) rfl ?_
  refine zh zJ_333 (i := (2, 0, 0, 0)) rfl rfl (k' := 3) (lo' := [(0, .ref ax), (1, .int v), (2, .ref ao)]) (st' := [.ref ax, .int (Int32.ofInt (0)), .ref ao]) (h' := h) rfl ?_
  refine zh zJ_333 (i := (1, 1, 0, 0)) rfl rfl (k' := 4) (lo' := [(0, .ref ax), (1, .int v), (2, .ref ao)]) (st' := [.int v, .ref ax, .int (Int32.ofInt (0)), .ref ao]) (h' := h) rfl ?_
  refine z_ok.call zJ_333.1 zJ_333.2.1 zJ_333.2.2 (i := (54, 146, 1, 8)) rfl (z_fin_no (by decide)) (zcal54 (xs := [.int v]) (rest := [.int (Int32.ofInt (0)), .ref ao]) (by omega) rfl rfl he rfl (Nat.le_of_ble_eq_true rfl) (M' := z_m146) rfl (Nat.le_of_ble_eq_true rfl)) (z_ok.imp (zS_146 (sx := sx) (d := d - 1) H (by omega) T E ha hv) (fun o h1 x y q => ?_))
  obtain ⟨ty1, X1, T1, E1, F1, P1, q⟩ := q
  have ha1 := X1 ax 1 ha
  have ho1 := X1 ao 33 ho
  cases o with
  | inl v =>
    obtain ⟨⟨c, rfl⟩, q1, q2⟩ := q
    show z_ok sx d 333 5 [(0, .ref ax), (1, .int v), (2, .ref ao)] [.int c, .int (Int32.ofInt (0)), .ref ao] h1 _
    refine zh zJ_333 (i := (19, 0, 0, 0)) rfl rfl (k' := 6) (lo' := [(0, .ref ax), (1, .int v), (2, .ref ao)]) (st' := [.long c.toInt64, .int (Int32.ofInt (0)), .ref ao]) (h' := h1) rfl ?_
    refine zlstore zJ_333 rfl (k' := 7) rfl T1 E1 ho1 (fun h2 T2 E2 F2 => ?_)
    refine zh zJ_333 (i := (30, 11, 0, 0)) rfl rfl (k' := 11) (lo' := [(0, .ref ax), (1, .int v), (2, .ref ao)]) (st' := []) (h' := h2) rfl ?_
    refine zh zJ_333 (i := (0, 0, 0, 0)) rfl rfl (k' := 12) (lo' := [(0, .ref ax), (1, .int v), (2, .ref ao)]) (st' := [.int (Int32.ofInt (0))]) (h' := h2) rfl ?_
    refine zh_iret zJ_333 (a := 0) (b := 0) (z := 0) rfl (Or.inl rfl) ?_
    exact ⟨_, ty1, rfl, X1, T2, E2, (F1.wide (by decide +kernel)).tr X1 (F2.wide (by decide +kernel)), P1.keep ha1 T2 zExt.rf F2 (zNin _ _ _ (by decide +kernel)) (zNin _ _ _ (by decide +kernel)), by omega, by omega⟩
  | inr e =>
    obtain ⟨q1, q2, q3⟩ := q
    have q1 := List.mem_singleton.mp q1
    subst q1
    refine ⟨rfl, ?_⟩
    show z_ok sx d 333 9 [(0, .ref ax), (1, .int v), (2, .ref ao)] [] h1 _
    refine zh zJ_333 (i := (0, 0, 0, 1)) rfl rfl (k' := 10) (lo' := [(0, .ref ax), (1, .int v), (2, .ref ao)]) (st' := [.int (Int32.ofInt (1))]) (h' := h1) rfl ?_
    refine zh_iret zJ_333 (a := 0) (b := 0) (z := 0) rfl (Or.inl rfl) ?_
    exact ⟨_, ty1, rfl, X1, T1, E1, F1.wide (by decide +kernel), P1, by omega, by omega⟩
theorem zJ_299 : zJ3 299 z_m299 z_c299 z_h299 := ⟨rfl, rfl, rfl⟩
noncomputable def zY2 : zCut := (2, [(0, (2, 20, 20)), (1, (0, 0, 1))], [], [(0, 0, 0, 3), (0, 0, 0, 0), (0, 0, 0, 0)])
noncomputable def zY12 : zCut := (12, [(0, (2, 20, 20)), (1, (0, 0, 1)), (2, (0, 0, 1)), (3, (0, 0, 400))], [(0, 11, (0, 0, 400))], [(0, 0, 0, 2), (1, 3, 0, 400), (0, 0, 0, 1)])
noncomputable def zY46 : zCut := (46, [(0, (2, 20, 20)), (1, (0, 0, 1)), (2, (0, 1, 1)), (3, (0, 0, 63)), (4, (0, 0, 2147483647)), (5, (0, 0, 400))], [(0, 1, (2, 21, 21)), (0, 11, (0, 0, 400))], [(0, 0, 0, 1), (1, 5, 0, 400), (0, 0, 0, 1)])
noncomputable def zC_wm : zCt := (299, [(2, 20, 20), (0, 0, 1)], [(0, 0, 9999)], [], [(20, 0, 0)], 6, (0, 0, 0, 0), [zY2, zY12, zY46])
theorem zK_wm2 : zx z_tt zCtl zCand 216 zC_wm (some zY2) 4000 (zc_st zC_wm zY2) = true := by decide +kernel
theorem zK_wm12 : zx z_tt zCtl zCand 216 zC_wm (some zY12) 4000 (zc_st zC_wm zY12) = true := by decide +kernel
theorem zK_wm46 : zx z_tt zCtl zCand 216 zC_wm (some zY46) 4000 (zc_st zC_wm zY46) = true := by decide +kernel
set_option maxRecDepth 100000 in
theorem zS_299 {sx : zX} {ty : List Nat} {a d : Nat} {h : zH} {v : Int32} (H : ∀ c, c < 216 → ∀ c', zCtl[c]? = some c' → zVd z_tt zE1 c') (hd : 6 ≤ d) (T : zTY z_tt ty h) (E : zE1 ty h) (ha : ty[a]? = some 20) (hv : 0 ≤ v.toInt ∧ v.toInt ≤ 1) : z_ok sx d 299 0 (lv_args 0 [.ref a, .int v]) [] h (zRq (fun v h' => (∃ c : Int32, v = some (.int c)) ∧ ∃ ty', zExt ty ty' ∧ zTY z_tt ty' h' ∧ zE1 ty' h' ∧ zFm [(20, 0, 0), (20, 9, 11)] ty h h' ∧ zNi h' a)) := by
  show z_ok sx d 299 0 [(0, .ref a), (1, .int v)] [] h _
  refine zh zJ_299 (i := (2, 0, 0, 0)) rfl rfl (k' := 1) (lo' := [(0, .ref a), (1, .int v)]) (st' := [.ref a]) (h' := h) rfl ?_
  obtain ⟨fs, he, hl⟩ := zcell0 (c := 9) (n := 23) T ha rfl rfl rfl
  refine zh_run (rest := []) (as := [.ref a]) zJ_299 (i := (54, 210, 0, 9)) rfl (by decide) (zcal54 (xs := []) (by omega) rfl rfl he rfl (Nat.le_of_ble_eq_true rfl) (M' := z_m210) rfl (Nat.le_of_ble_eq_true rfl)) (zS_210 T E ha) (fun o hh x y q => ?_)
  obtain ⟨v9, rfl, rfl, rfl, rfl, T1, E1, F1, N1⟩ := q
  refine ⟨_, rfl, rfl, rfl, ?_⟩
  have hgo := zcut_ok (sx := sx) (d0 := d) (ty0 := ty) (h0 := hh) (ct := zC_wm) (own := 216) (cts := zCtl) (cand := zCand) (N := 3) (fuel := 4000) (zE1_stable (by decide +kernel)) hd (fun c hc c' hc' => H c hc c' hc') (by decide +kernel) (fun c hc => by
    rcases List.mem_cons.mp hc with rfl | hc
    · exact zK_wm2
    rcases List.mem_cons.mp hc with rfl | hc
    · exact zK_wm12
    · rw [List.mem_singleton.mp hc]; exact zK_wm46) (zY2.2.2.2.map (zmc [(0, .ref a), (1, .int v)] hh)) rfl zY2 List.mem_cons_self ty [(0, .ref a), (1, .int v)] hh [.ref a, .int v] [] rfl zExt.rf T1 E1 zFm.rf ⟨rfl, ⟨a, 20, rfl, ha, Int.le_refl _, Int.le_refl _⟩, rfl, ⟨v, rfl, hv.1, hv.2⟩, trivial⟩ trivial
  refine z_ok.imp hgo (fun o h2 x y q => ?_)
  have q : zPo z_tt zE1 zC_wm ty hh o h2 (x + 0) (y + 0) := q
  obtain ⟨ty', X, T2, E2, F2, q⟩ := q
  cases o with
  | inr e => exact absurd q.1 List.not_mem_nil
  | inl v =>
  obtain ⟨q1, q2, q3⟩ := q
  have q2 : x + 0 ≤ 0 := q2
  have q3 : y + 0 ≤ 0 := q3
  cases v with
  | none => exact q1.elim
  | some v =>
  obtain ⟨c, rfl, c1, c2⟩ := q1
  exact ⟨_, rfl, by omega, by omega, ⟨c, rfl⟩, ty', X, T2, E2, (F1.wide (by decide +kernel)).tr zExt.rf (F2.wide (by decide +kernel)), N1.keep' T2 X ha F2 (zNin _ _ _ (by decide +kernel))⟩
