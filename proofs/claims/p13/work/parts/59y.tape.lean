section
/-! deed, law, who: the tapes are empty behind them; printed with wip/gen/gen_tape.py -/
theorem zok_gx {sx : zX} {d j k : Nat} {lo : zL} {h : zH} {Φ : zO → zH → Nat → Nat → Prop} (H : z_ok sx d j k lo [] h Φ) : zGo sx d Φ [(j, k, lo, [])] h 0 0 := H
/-- the class's tape is emptied -/
theorem zemp {sx : zX} {d j k k1 k2 k3 k4 : Nat} {lo : zL} {h : zH} {Φ : zO → zH → Nat → Nat → Prop} {M : zMi} {cs : List zI} {hs : List zHd} {ty : List Nat} {ax : Nat} (J : zJ3 j M cs hs) (i0 : cs[k]? = some (2, 0, 0, 0)) (e1 : k + 1 = k1) (i1 : cs[k1]? = some (37, 8, 0, 0)) (e2 : k1 + 1 = k2) (i2 : cs[k2]? = some (0, 0, 0, 0)) (e3 : k2 + 1 = k3) (i3 : cs[k3]? = some (38, 6, 1, 0)) (e4 : k3 + 1 = k4) (g0 : z_get lo 0 = some (.ref ax)) (ha : ty[ax]? = some 1) (T : zTY z_tt ty h) (E : zE1 ty h) (kk : ∀ h', zTY z_tt ty h' → zE1 ty h' → zFm [(2, 1, 1)] ty h h' → zTp ty h' ax 0 → z_ok sx d j k4 lo [] h' Φ) : z_ok sx d j k lo [] h Φ := by
  obtain ⟨fs, he, hl⟩ := zcell0 (c := 8) (n := 8) T ha rfl rfl rfl
  obtain ⟨t, f0, ht⟩ := zfd2 (b := 0) (u := 2) T ha he (by omega) (by decide +kernel)
  obtain ⟨ts, het, hlt⟩ := zcell0 (c := 6) (n := 4) T ht rfl rfl rfl
  refine zh_ald J i0 e1 g0 ?_
  refine zh_get J i1 e2 he f0 ?_
  refine zh J i2 rfl (k' := k3) (lo' := lo) (st' := [.int (Int32.ofInt (0)), .ref t]) (h' := h) (by rw [← e3]; rfl) ?_
  refine zputT J i3 e4 T E ht het (by omega) (zK0 (n := 0) (by decide) (by decide)) (by decide +kernel) [(2, 1, 1)] (by decide +kernel) (by decide +kernel) rfl (fun h1 T1 E1 F1 he1 hq1 => ?_)
  have hn : ax ≠ t := fun e => by rw [e, ht] at ha; cases ha
  exact kk h1 T1 E1 F1 ⟨_, _, t, _, (hq1 ax hn).trans he, f0, ht, he1, List.getElem?_set_self (by omega), rfl⟩
noncomputable def zEd (ty : List Nat) (h : zH) (ax : Nat) (ms : List zMod) (kx ky : Nat) (es : List Nat) : zO → zH → Nat → Nat → Prop := fun o h' x y => ∃ ty', zExt ty ty' ∧ zTY z_tt ty' h' ∧ zE1 ty' h' ∧ zFm ms ty h h' ∧ zTp ty' h' ax 0 ∧ (match o with
  | .inl v => (∃ c : Int32, v = some (.int c)) ∧ x ≤ kx ∧ y ≤ ky
  | .inr E => E ∈ es ∧ x ≤ 1 ∧ y ≤ 6)
/-- what a contract's end gives, where the tape is empty already -/
theorem zEd_of {ct : zCt} {A : Int × Int} {ty ty1 : List Nat} {h h1 : zH} {ax kx ky : Nat} {ms : List zMod} {es : List Nat} (hR : zcR ct = [(0, A.1, A.2)]) (hE : ∀ e ∈ zcE ct, e ∈ es) (hK : (zcK ct).1 ≤ kx ∧ (zcK ct).2.1 ≤ ky ∧ (zcK ct).2.2.1 ≤ 1 ∧ (zcK ct).2.2.2 ≤ 6) (hM : zWide (zcM ct) ms = true) (h10 : ¬ zIn (zcM ct) 1 0) (h21 : ¬ zIn (zcM ct) 2 1) (ha : ty1[ax]? = some 1) (X : zExt ty ty1) (F : zFm ms ty h h1) (P : zTp ty1 h1 ax 0) : ∀ o h' x y, zPo z_tt zE1 ct ty1 h1 o h' x y → zEd ty h ax ms kx ky es o h' x y := by
  rintro o h' x y ⟨ty', X', T', E', F', q⟩
  refine ⟨ty', X.tr X', T', E', F.tr X (F'.wide hM), P.keep ha T' X' F' h10 h21, ?_⟩
  cases o with
  | inl v =>
    obtain ⟨q1, q2, q3⟩ := q
    rw [hR] at q1
    cases v with
    | none => exact q1.elim
    | some v =>
      obtain ⟨c, rfl, -⟩ := q1
      exact ⟨⟨c, rfl⟩, by omega, by omega⟩
  | inr e => exact ⟨hE e q.1, by omega, by omega⟩
theorem zJ_120 : zJ3 120 z_m120 z_c120 z_h120 := ⟨rfl, rfl, rfl⟩
noncomputable def zC_d1 : zCt := (120, [(2, 1, 1)], [(0, 1, 0)], [], [(1, 7, 7), (2, 1, 3), (8, 5, 17), (9, 4, 4), (10, 0, 5), (11, 2, 3), (12, 0, 7), (13, 1, 2), (14, 0, 299), (16, 0, 23), (17, 2, 2)], 12, (0, 0, 0, 0), [])
noncomputable def zC_d2 : zCt := (120, [(2, 1, 1)], [zFull], [0, 1], [(8, 5, 17), (9, 4, 4), (10, 0, 5), (11, 2, 3), (12, 0, 7), (13, 1, 2), (14, 0, 299), (16, 0, 23), (17, 2, 2)], 12, (0, 0, 1, 6), [])
noncomputable def zD0 : zCut := (0, [(0, (2, 1, 1))], [], [])
noncomputable def zD16 : zCut := (16, [(0, (2, 1, 1))], [], [])
noncomputable def zDg : zTk := ((12, [], [], []), [0])
theorem zK_d1 : zxs z_tt zCtl zCand 72 zC_d1 (zstop4 [zDg]) (zht4 z_tt zC_d1 zD0 [zDg]) 4000 (zc_st zC_d1 zD0) = true := by decide +kernel
theorem zK_d2 : zxs z_tt zCtl zCand 72 zC_d2 (zstop4 []) (zht4 z_tt zC_d2 zD16 []) 4000 (zc_st zC_d2 zD16) = true := by decide +kernel
set_option maxRecDepth 100000 in
theorem zS_120 {sx : zX} {d : Nat} {ty : List Nat} {h : zH} {ax : Nat} (H : ∀ c, c < 72 → ∀ c', zCtl[c]? = some c' → zVd z_tt zE1 c') (hd : 12 ≤ d) (T : zTY z_tt ty h) (E : zE1 ty h) (ha : ty[ax]? = some 1) : z_ok sx d 120 0 (lv_args 0 [.ref ax]) [] h (zEd ty h ax [(1, 7, 7), (2, 1, 3), (8, 5, 17), (9, 4, 4), (10, 0, 5), (11, 2, 3), (12, 0, 7), (13, 1, 2), (14, 0, 299), (16, 0, 23), (17, 2, 2)] 0 0 [0, 1]) := by
  show z_ok sx d 120 0 [(0, .ref ax)] [] h _
  refine zok_go ?_
  refine zseg4 (ct := zC_d1) (c0 := zD0) (gs := [zDg]) (d0 := d) (ty0 := ty) (h0 := h) (vl := [.ref ax]) (vm := []) (zE1_stable (by decide +kernel)) hd H (zPo_no rfl rfl _) zK_d1 zExt.rf T E zFm.rf ⟨rfl, ⟨ax, 1, rfl, ha, Int.le_refl _, Int.le_refl _⟩, trivial⟩ trivial (fun g hg ty1 lo1 h1 vl' vm' X1 T1 E1 F1 V W R K => ?_)
  rw [List.mem_singleton.mp hg] at K ⊢
  have g0 := (K 0 (by decide)).trans (show z_get _ 0 = some (.ref ax) from rfl)
  have ha1 := X1 ax 1 ha
  refine zok_gx ?_
  refine zemp (k4 := 16) zJ_120 rfl rfl rfl rfl rfl rfl rfl rfl g0 ha1 T1 E1 (fun h2 T2 E2 F2 P2 => ?_)
  refine zok_go ?_
  exact zseg4 (ct := zC_d2) (c0 := zD16) (gs := []) (d0 := d) (ty0 := ty1) (h0 := h2) (vl := [.ref ax]) (vm := []) (zE1_stable (by decide +kernel)) hd H (zEd_of (A := (-2147483648, 2147483647)) rfl (by decide) (by decide) (by decide +kernel) (zNin _ _ _ (by decide +kernel)) (zNin _ _ _ (by decide +kernel)) ha1 X1 (F1.tr X1 (F2.wide (by decide +kernel))) P2) zK_d2 zExt.rf T2 E2 zFm.rf ⟨g0, ⟨ax, 1, rfl, ha1, Int.le_refl _, Int.le_refl _⟩, trivial⟩ trivial (fun g hg => absurd hg List.not_mem_nil)
theorem zJ_146 : zJ3 146 z_m146 z_c146 z_h146 := ⟨rfl, rfl, rfl⟩
noncomputable def zC_w1 : zCt := (146, [(2, 1, 1), (0, 0, 1)], [(0, 1, 0)], [], [(2, 1, 1)], 6, (0, 0, 0, 0), [])
noncomputable def zC_w2 : zCt := (146, [(2, 1, 1), (0, 0, 1)], [zFull], [0], [], 6, (0, 0, 1, 6), [])
noncomputable def zW0 : zCut := (0, [(0, (2, 1, 1)), (1, (0, 0, 1))], [], [])
noncomputable def zW19 : zCut := (19, [(0, (2, 1, 1)), (2, (0, 0, 1)), (3, zFull)], [], [])
noncomputable def zWg : zTk := ((15, [(2, (0, 0, 1)), (3, zFull)], [], []), [0])
theorem zK_w1 : zxs z_tt zCtl zCand 151 zC_w1 (zstop4 [zWg]) (zht4 z_tt zC_w1 zW0 [zWg]) 4000 (zc_st zC_w1 zW0) = true := by decide +kernel
theorem zK_w2 : zxs z_tt zCtl zCand 151 zC_w2 (zstop4 []) (zht4 z_tt zC_w2 zW19 []) 4000 (zc_st zC_w2 zW19) = true := by decide +kernel
set_option maxRecDepth 100000 in
theorem zS_146 {sx : zX} {d : Nat} {ty : List Nat} {h : zH} {ax : Nat} {v : Int32} (H : ∀ c, c < 151 → ∀ c', zCtl[c]? = some c' → zVd z_tt zE1 c') (hd : 6 ≤ d) (T : zTY z_tt ty h) (E : zE1 ty h) (ha : ty[ax]? = some 1) (hv : 0 ≤ v.toInt ∧ v.toInt ≤ 1) : z_ok sx d 146 0 (lv_args 0 [.ref ax, .int v]) [] h (zEd ty h ax [(2, 1, 1)] 0 0 [0]) := by
  show z_ok sx d 146 0 [(0, .ref ax), (1, .int v)] [] h _
  refine zok_go ?_
  refine zseg4 (ct := zC_w1) (c0 := zW0) (gs := [zWg]) (d0 := d) (ty0 := ty) (h0 := h) (vl := [.ref ax, .int v]) (vm := []) (zE1_stable (by decide +kernel)) hd H (zPo_no rfl rfl _) zK_w1 zExt.rf T E zFm.rf ⟨rfl, ⟨ax, 1, rfl, ha, Int.le_refl _, Int.le_refl _⟩, rfl, ⟨v, rfl, hv.1, hv.2⟩, trivial⟩ trivial (fun g hg ty1 lo1 h1 vl' vm' X1 T1 E1 F1 V W R K => ?_)
  rw [List.mem_singleton.mp hg] at V K ⊢
  match vl', V with
  | [u2, u3], V =>
  obtain ⟨k2, G2, k3, G3, -⟩ := V
  have g0 := (K 0 (by decide)).trans (show z_get _ 0 = some (.ref ax) from rfl)
  have ha1 := X1 ax 1 ha
  refine zok_gx ?_
  refine zemp (k4 := 19) zJ_146 rfl rfl rfl rfl rfl rfl rfl rfl g0 ha1 T1 E1 (fun h2 T2 E2 F2 P2 => ?_)
  refine zok_go ?_
  exact zseg4 (ct := zC_w2) (c0 := zW19) (gs := []) (d0 := d) (ty0 := ty1) (h0 := h2) (vl := [.ref ax, u2, u3]) (vm := []) (zE1_stable (by decide +kernel)) hd H (zEd_of (A := (-2147483648, 2147483647)) rfl (by decide) (by decide) (by decide +kernel) (zNin _ _ _ (by decide +kernel)) (zNin _ _ _ (by decide +kernel)) ha1 X1 (F1.tr X1 F2) P2) zK_w2 zExt.rf T2 E2 zFm.rf ⟨g0, ⟨ax, 1, rfl, ha1, Int.le_refl _, Int.le_refl _⟩, k2, G2, k3, G3, trivial⟩ trivial (fun g hg => absurd hg List.not_mem_nil)
/-- a call by a contract that throws nothing and makes nothing; the heap has no more cells -/
theorem zh_conL {sx : zX} {d j k : Nat} {lo : zL} {st rest : List Value} {h : zH} {Ψ : zO → zH → Nat → Nat → Prop} {M : zMi} {cs : List zI} {hs : List zHd} {j' : Nat} {as : List Value} {i : zI} {ct : zCt} {ty : List Nat} (J : zJ3 j M cs hs) (hi : cs[k]? = some i) (hn : i.1 ≠ 50 ∧ i.1 ≠ 51 ∧ i.1 ≠ 52 ∧ i.1 ≠ 53 ∧ i.1 ≠ 62) (hc : z_cal i d st h = some (j', as, rest)) (V : zVd z_tt zE1 ct) (hj : zcJ ct = j') (hd : zcD ct + 1 ≤ d) (he : zcE ct = []) (hk : (zcK ct).1 = 0 ∧ (zcK ct).2.1 = 0) (T : zTY z_tt ty h) (E : zE1 ty h) (hA : zAg ty (zcA ct) as) (kk : ∀ (ty' : List Nat) (h' : zH) (v : Option Value), zExt ty ty' → zTY z_tt ty' h' → zE1 ty' h' → zFm (zcM ct) ty h h' → zRt ty' (zcR ct) v → h'.length ≤ h.length → z_ok sx d j (k + 1) lo (v.toList ++ rest) h' Ψ) : z_ok sx d j k lo st h Ψ := by
  subst hj
  refine zh_run J hi hn hc (z_ok.len (V sx (d - 1) ty h as (by omega) T E hA)) (fun o h' x y q => ?_)
  obtain ⟨⟨ty', q1, q2, q3, q4, q5⟩, q8⟩ := q
  cases o with
  | inl v =>
    obtain ⟨q5, q6, q7⟩ := q5
    exact ⟨v, rfl, by omega, by omega, kk ty' h' v q1 q2 q3 q4 q5 (by omega)⟩
  | inr e =>
    rw [he] at q5
    exact absurd q5.1 List.not_mem_nil
theorem zh_throw {sx : zX} {d j k a b : Nat} {z : Int} {lo : zL} {st : List Value} {h : zH} {Ψ : zO → zH → Nat → Nat → Prop} {M : zMi} {cs : List zI} {hs : List zHd} (J : zJ3 j M cs hs) (hi : cs[k]? = some (62, a, b, z)) (hd : 6 ≤ d) (hz : z_cat st ≤ 8) (kk : Ψ (.inr a) h 1 6) : z_ok sx d j k lo st h Ψ := by
  refine z_ok.fin J.1 J.2.1 J.2.2 hi ?_ kk
  rw [z_fin62 rfl]
  exact if_pos ⟨hd, hz⟩
theorem zJ_121 : zJ3 121 z_m121 z_c121 z_h121 := ⟨rfl, rfl, rfl⟩
noncomputable def zC_l3 : zCt := (121, [(2, 1, 1)], [(0, 0, 12)], [], [(8, 5, 5), (17, 2, 2)], 31, (0, 0, 0, 0), [])
noncomputable def zL24 : zCut := (24, [(0, (2, 1, 1)), (1, (2, 100, 112))], [], [])
theorem zK_l3 : zxs z_tt zCtl zCand 105 zC_l3 (zstop4 []) (zht4 z_tt zC_l3 zL24 []) 4000 (zc_st zC_l3 zL24) = true := by decide +kernel
set_option maxRecDepth 100000 in
theorem zS_121 {sx : zX} {d : Nat} {ty : List Nat} {h : zH} {ax : Nat} (H : ∀ c, c < 105 → ∀ c', zCtl[c]? = some c' → zVd z_tt zE1 c') (hd : 31 ≤ d) (T : zTY z_tt ty h) (E : zE1 ty h) (ha : ty[ax]? = some 1) (hB : h.length + 6 ≤ zB) : z_ok sx d 121 0 (lv_args 0 [.ref ax]) [] h (zEd ty h ax [(1, 7, 7), (2, 1, 3), (4, 4, 5), (5, 0, 11), (6, 0, 11), (7, 0, 399), (8, 5, 5), (17, 2, 2)] 6 900 [0]) := by
  show z_ok sx d 121 0 [(0, .ref ax)] [] h _
  obtain ⟨fs, he, hl⟩ := zcell0 (c := 8) (n := 8) T ha rfl rfl rfl
  obtain ⟨r, f1, hr⟩ := zfd2 (b := 1) (u := 4) T ha he (by omega) (by decide +kernel)
  obtain ⟨t, f0, ht⟩ := zfd2 (b := 0) (u := 2) T ha he (by omega) (by decide +kernel)
  obtain ⟨rs, her, hlr⟩ := zcell0 (c := 3) (n := 6) T hr rfl rfl rfl
  refine zh zJ_121 (i := (2, 0, 0, 0)) rfl rfl (k' := 1) (lo' := [(0, .ref ax)]) (st' := [.ref ax]) (h' := h) rfl ?_
  refine zh zJ_121 (i := (2, 0, 0, 0)) rfl rfl (k' := 2) (lo' := [(0, .ref ax)]) (st' := [.ref ax, .ref ax]) (h' := h) rfl ?_
  refine zh_get zJ_121 (b := 1) (c := 8) (z := 0) rfl (k' := 3) rfl he f1 ?_
  refine zh zJ_121 (i := (2, 0, 0, 0)) rfl rfl (k' := 4) (lo' := [(0, .ref ax)]) (st' := [.ref ax, .ref r, .ref ax]) (h' := h) rfl ?_
  refine zh_get zJ_121 (b := 0) (c := 8) (z := 0) rfl (k' := 5) rfl he f0 ?_
  refine zh_conL (as := [.ref r, .ref t]) (rest := [.ref ax]) (ct := zC104) zJ_121 (i := (54, 47, 1, 3)) rfl (by decide) (zcal54 (xs := [.ref t]) (by omega) rfl rfl her rfl (Nat.le_of_ble_eq_true rfl) (M' := z_m47) rfl (Nat.le_of_ble_eq_true rfl)) (H 104 (by omega) _ rfl) rfl (by show 23 + 1 ≤ d; omega) rfl ⟨rfl, rfl⟩ T E ⟨⟨r, 4, rfl, hr, Int.le_refl _, Int.le_refl _⟩, ⟨t, 2, rfl, ht, Int.le_refl _, Int.le_refl _⟩, trivial⟩ (fun ty1 h1 v X1 T1 E1 F1 V1 L1 => ?_)
  match v, V1 with
  | some v, V1 =>
  obtain ⟨c, rfl, -⟩ := V1
  have ha1 := X1 ax 1 ha
  obtain ⟨fs1, he1, hl1⟩ := zcell0 (c := 8) (n := 8) T1 ha1 rfl rfl rfl
  show z_ok sx d 121 6 [(0, .ref ax)] [.int c, .ref ax] h1 _
  refine zputT zJ_121 (k' := 7) rfl rfl T1 E1 ha1 he1 (by omega) (zFull_ok c) (by decide +kernel) [(1, 7, 7)] (by decide +kernel) (by decide +kernel) rfl (fun h2 T2 E2 F2 he2 hq2 => ?_)
  refine zemp (k4 := 11) zJ_121 rfl rfl rfl rfl rfl rfl rfl rfl rfl ha1 T2 E2 (fun h3 T3 E3 F3 P3 => ?_)
  have F03 : zFm [(1, 7, 7), (2, 1, 3), (4, 4, 5), (5, 0, 11), (6, 0, 11), (7, 0, 399), (8, 5, 5), (17, 2, 2)] ty h h3 := ((F1.wide (by decide +kernel)).tr X1 (F2.wide (by decide +kernel))).tr X1 (F3.wide (by decide +kernel))
  have L3 : h3.length ≤ h.length := by rw [T3.len T1]; exact L1
  obtain ⟨fs3, he3, hl3⟩ := zcell0 (c := 8) (n := 8) T3 ha1 rfl rfl rfl
  obtain ⟨x7, f7, -⟩ := zfd0 (b := 7) (lo := -2147483648) (hi := 2147483647) T3 ha1 he3 (by omega) (by decide +kernel)
  obtain ⟨r3, f13, hr3⟩ := zfd2 (b := 1) (u := 4) T3 ha1 he3 (by omega) (by decide +kernel)
  obtain ⟨rs3, her3, hlr3⟩ := zcell0 (c := 3) (n := 6) T3 hr3 rfl rfl rfl
  refine zh zJ_121 (i := (2, 0, 0, 0)) rfl rfl (k' := 12) (lo' := [(0, .ref ax)]) (st' := [.ref ax]) (h' := h3) rfl ?_
  refine zh_get zJ_121 (b := 7) (c := 8) (z := 0) rfl (k' := 13) rfl he3 f7 ?_
  refine zh zJ_121 (i := (0, 0, 0, -1)) rfl rfl (k' := 14) (lo' := [(0, .ref ax)]) (st' := [.int (Int32.ofInt (-1)), .int x7]) (h' := h3) rfl ?_
  refine zh_icmp zJ_121 (a := 20) (b := 0) (z := 0) rfl (fun hc1 => ?_) (fun hc1 => ?_)
  · refine zh zJ_121 (i := (2, 0, 0, 0)) rfl rfl (k' := 21) (lo' := [(0, .ref ax)]) (st' := [.ref ax]) (h' := h3) rfl ?_
    refine zh_get zJ_121 (b := 1) (c := 8) (z := 0) rfl (k' := 22) rfl he3 f13 ?_
    refine z_ok.call zJ_121.1 zJ_121.2.1 zJ_121.2.2 (i := (54, 48, 0, 3)) rfl (z_fin_no (by decide)) (zcal54 (xs := []) (rest := []) (by omega) rfl rfl her3 rfl (Nat.le_of_ble_eq_true rfl) (M' := z_m48) rfl (Nat.le_of_ble_eq_true rfl)) (z_ok.imp (zS_48 (sx := sx) (d := d - 1) (by omega) T3 E3 hr3 (by omega)) (fun o h4 a b q => ?_))
    obtain ⟨ty4, L, rfl, X4, T4, E4, F4, qa, qb, hL, hL2⟩ := q
    show z_ok sx d 121 23 [(0, .ref ax)] [.ref h3.length] h4 _
    refine zh zJ_121 (i := (5, 1, 0, 0)) rfl rfl (k' := 24) (lo' := [(1, .ref h3.length), (0, .ref ax)]) (st' := []) (h' := h4) rfl ?_
    have ha4 := X4 ax 1 ha1
    have P4 := P3.keep ha1 T4 X4 F4 (zNin _ _ _ (by decide +kernel)) (zNin _ _ _ (by decide +kernel))
    refine z_ok.imp (zok_go (zseg4 (ct := zC_l3) (c0 := zL24) (gs := []) (d0 := d) (ty0 := ty4) (h0 := h4) (vl := [.ref ax, .ref h3.length]) (vm := []) (zE1_stable (by decide +kernel)) hd H (zEd_of (A := (0, 12)) (kx := 0) (ky := 0) (es := []) rfl (by decide) (by decide) (by decide +kernel) (zNin _ _ _ (by decide +kernel)) (zNin _ _ _ (by decide +kernel)) ha4 (X1.tr X4) (F03.tr X1 (F4.wide (by decide +kernel))) P4) zK_l3 zExt.rf T4 E4 zFm.rf ⟨rfl, ⟨ax, 1, rfl, ha4, Int.le_refl _, Int.le_refl _⟩, rfl, ⟨_, 100 + L, rfl, hL, by omega, by omega⟩, trivial⟩ trivial (fun g hg => absurd hg List.not_mem_nil))) (fun o h5 x y q => ?_)
    obtain ⟨ty5, X5, T5, E5, F5, P5, q⟩ := q
    refine ⟨ty5, X5, T5, E5, F5, P5, ?_⟩
    cases o with
    | inl v => exact ⟨q.1, by omega, by omega⟩
    | inr e => exact absurd q.1 List.not_mem_nil
  · refine zh_throw zJ_121 (a := 0) (b := 2) (z := 0) rfl (by omega) (Nat.zero_le _) ?_
    exact ⟨ty1, X1, T3, E3, F03, P3, List.mem_singleton.mpr rfl, Nat.le_refl _, Nat.le_refl _⟩
theorem zlstore {sx : zX} {d j k k' p q : Nat} {z : Int} {lo : zL} {h : zH} {Ψ : zO → zH → Nat → Nat → Prop} {M : zMi} {cs : List zI} {hs : List zHd} {ty : List Nat} {ao : Nat} {v : Int64} (J : zJ3 j M cs hs) (hi : cs[k]? = some (43, p, q, z)) (hk : k + 1 = k') (T : zTY z_tt ty h) (E : zE1 ty h) (ho : ty[ao]? = some 33) (kk : ∀ h', zTY z_tt ty h' → zE1 ty h' → zFm [(33, 0, 0)] ty h h' → z_ok sx d j k' lo [] h' Ψ) : z_ok sx d j k lo [.long v, .int (Int32.ofInt (0)), .ref ao] h Ψ := by
  obtain ⟨e, he, hs9, -⟩ := zcell T ho
  obtain ⟨f, rfl⟩ : ∃ f, e = .inl (2, (1, .inr (.inl f))) := by
    obtain ⟨f, hf⟩ := zsh3 hs9 rfl
    exact ⟨f, hf⟩
  have hs' : z_sh (z_tt 33) (.inl (2, (1, .inr (.inl (vp_updL f 0 v))))) := rfl
  have T' := T.wr (i := 0) (v := .long v) ho he hs' (z_rd_long (by omega)) (zst_ok (a := (1, -9223372036854775808, 9223372036854775807)) (ilo := 0) (ihi := 0) (by decide +kernel) ⟨v, rfl, (zb64 v).1, (zb64 v).2⟩ (by omega) (by omega))
  have F' := zFm.wr (ms := [(33, 0, 0)]) (i := 0) (v := .long v) ho he (z_rd_long (by omega)) ⟨_, List.mem_singleton.mpr rfl, rfl, by decide, by decide⟩
  refine zh J hi rfl ?_ (kk _ T' (zE1_stable (by decide +kernel) ty h _ T T' (T.len T') F' E) F')
  show zo_last sx d p q z k lo [.long v, .int (Int32.ofInt (0)), .ref ao] h = _
  unfold zo_last
  dsimp only
  rw [he, ← hk]
  rfl
noncomputable def zWr (ty : List Nat) (h : zH) (ax : Nat) (ms : List zMod) (kx ky : Nat) : zO → zH → Nat → Nat → Prop := fun o h' x y => ∃ (c : Int32) (ty' : List Nat), o = .inl (some (.int c)) ∧ zExt ty ty' ∧ zTY z_tt ty' h' ∧ zE1 ty' h' ∧ zFm ms ty h h' ∧ zTp ty' h' ax 0 ∧ x ≤ kx ∧ y ≤ ky
theorem zJ_315 : zJ3 315 z_m315 z_c315 z_h315 := ⟨rfl, rfl, rfl⟩
set_option maxRecDepth 100000 in
theorem zS_315 {sx : zX} {d : Nat} {ty : List Nat} {h : zH} {ax ao : Nat} (H : ∀ c, c < 72 → ∀ c', zCtl[c]? = some c' → zVd z_tt zE1 c') (hd : 13 ≤ d) (T : zTY z_tt ty h) (E : zE1 ty h) (ha : ty[ax]? = some 1) (ho : ty[ao]? = some 33) : z_ok sx d 315 0 (lv_args 0 [.ref ax, .ref ao]) [] h (zWr ty h ax [(1, 7, 7), (2, 1, 3), (8, 5, 17), (9, 4, 4), (10, 0, 5), (11, 2, 3), (12, 0, 7), (13, 1, 2), (14, 0, 299), (16, 0, 23), (17, 2, 2), (33, 0, 0)] 1 6) := by
  show z_ok sx d 315 0 [(0, .ref ax), (1, .ref ao)] [] h _
  obtain ⟨fs, he, hl⟩ := zcell0 (c := 8) (n := 8) T ha rfl rfl rfl
  refine zh zJ_315 (i := (2, 1, 0, 0)) rfl rfl (k' := 1) (lo' := [(0, .ref ax), (1, .ref ao)]) (st' := [.ref ao]) (h' := h) rfl ?_
  refine zh zJ_315 (i := (0, 0, 0, 0)) rfl rfl (k' := 2) (lo' := [(0, .ref ax), (1, .ref ao)]) (st' := [.int (Int32.ofInt (0)), .ref ao]) (h' := h) rfl ?_
  refine zh zJ_315 (i := (2, 0, 0, 0)) rfl rfl (k' := 3) (lo' := [(0, .ref ax), (1, .ref ao)]) (st' := [.ref ax, .int (Int32.ofInt (0)), .ref ao]) (h' := h) rfl ?_
  refine z_ok.call zJ_315.1 zJ_315.2.1 zJ_315.2.2 (i := (54, 120, 0, 8)) rfl (z_fin_no (by decide)) (zcal54 (xs := []) (rest := [.int (Int32.ofInt (0)), .ref ao]) (by omega) rfl rfl he rfl (Nat.le_of_ble_eq_true rfl) (M' := z_m120) rfl (Nat.le_of_ble_eq_true rfl)) (z_ok.imp (zS_120 (sx := sx) (d := d - 1) H (by omega) T E ha) (fun o h1 x y q => ?_))
  obtain ⟨ty1, X1, T1, E1, F1, P1, q⟩ := q
  have ha1 := X1 ax 1 ha
  have ho1 := X1 ao 33 ho
  cases o with
  | inl v =>
    obtain ⟨⟨c, rfl⟩, q1, q2⟩ := q
    show z_ok sx d 315 4 [(0, .ref ax), (1, .ref ao)] [.int c, .int (Int32.ofInt (0)), .ref ao] h1 _
    refine zh zJ_315 (i := (19, 0, 0, 0)) rfl rfl (k' := 5) (lo' := [(0, .ref ax), (1, .ref ao)]) (st' := [.long c.toInt64, .int (Int32.ofInt (0)), .ref ao]) (h' := h1) rfl ?_
    refine zlstore zJ_315 rfl (k' := 6) rfl T1 E1 ho1 (fun h2 T2 E2 F2 => ?_)
    refine zh zJ_315 (i := (30, 13, 0, 0)) rfl rfl (k' := 13) (lo' := [(0, .ref ax), (1, .ref ao)]) (st' := []) (h' := h2) rfl ?_
    refine zh zJ_315 (i := (0, 0, 0, 0)) rfl rfl (k' := 14) (lo' := [(0, .ref ax), (1, .ref ao)]) (st' := [.int (Int32.ofInt (0))]) (h' := h2) rfl ?_
    refine zh_iret zJ_315 (a := 0) (b := 0) (z := 0) rfl (Or.inl rfl) ?_
    exact ⟨_, ty1, rfl, X1, T2, E2, (F1.wide (by decide +kernel)).tr X1 (F2.wide (by decide +kernel)), P1.keep ha1 T2 zExt.rf F2 (zNin _ _ _ (by decide +kernel)) (zNin _ _ _ (by decide +kernel)), by omega, by omega⟩
  | inr e =>
    obtain ⟨q1, q2, q3⟩ := q
    rcases List.mem_cons.mp q1 with rfl | q1
    · refine ⟨rfl, ?_⟩
      show z_ok sx d 315 8 [(0, .ref ax), (1, .ref ao)] [] h1 _
      refine zh zJ_315 (i := (0, 0, 0, 1)) rfl rfl (k' := 9) (lo' := [(0, .ref ax), (1, .ref ao)]) (st' := [.int (Int32.ofInt (1))]) (h' := h1) rfl ?_
      refine zh_iret zJ_315 (a := 0) (b := 0) (z := 0) rfl (Or.inl rfl) ?_
      exact ⟨_, ty1, rfl, X1, T1, E1, F1.wide (by decide +kernel), P1, by omega, by omega⟩
    have q1 := List.mem_singleton.mp q1
    subst q1
    refine ⟨rfl, ?_⟩
    show z_ok sx d 315 11 [(0, .ref ax), (1, .ref ao)] [] h1 _
    refine zh zJ_315 (i := (0, 0, 0, 2)) rfl rfl (k' := 12) (lo' := [(0, .ref ax), (1, .ref ao)]) (st' := [.int (Int32.ofInt (2))]) (h' := h1) rfl ?_
    refine zh_iret zJ_315 (a := 0) (b := 0) (z := 0) rfl (Or.inl rfl) ?_
    exact ⟨_, ty1, rfl, X1, T1, E1, F1.wide (by decide +kernel), P1, by omega, by omega⟩
theorem zJ_316 : zJ3 316 z_m316 z_c316 z_h316 := ⟨rfl, rfl, rfl⟩
set_option maxRecDepth 100000 in
theorem zS_316 {sx : zX} {d : Nat} {ty : List Nat} {h : zH} {ax ao : Nat} (H : ∀ c, c < 105 → ∀ c', zCtl[c]? = some c' → zVd z_tt zE1 c') (hd : 32 ≤ d) (hB : h.length + 6 ≤ zB) (T : zTY z_tt ty h) (E : zE1 ty h) (ha : ty[ax]? = some 1) (ho : ty[ao]? = some 33) : z_ok sx d 316 0 (lv_args 0 [.ref ax, .ref ao]) [] h (zWr ty h ax [(1, 7, 7), (2, 1, 3), (4, 4, 5), (5, 0, 11), (6, 0, 11), (7, 0, 399), (8, 5, 5), (17, 2, 2), (33, 0, 0)] 6 900) := by
  show z_ok sx d 316 0 [(0, .ref ax), (1, .ref ao)] [] h _
  obtain ⟨fs, he, hl⟩ := zcell0 (c := 8) (n := 8) T ha rfl rfl rfl
  refine zh zJ_316 (i := (2, 1, 0, 0)) rfl rfl (k' := 1) (lo' := [(0, .ref ax), (1, .ref ao)]) (st' := [.ref ao]) (h' := h) rfl ?_
  refine zh zJ_316 (i := (0, 0, 0, 0)) rfl rfl (k' := 2) (lo' := [(0, .ref ax), (1, .ref ao)]) (st' := [.int (Int32.ofInt (0)), .ref ao]) (h' := h) rfl ?_
  refine zh zJ_316 (i := (2, 0, 0, 0)) rfl rfl (k' := 3) (lo' := [(0, .ref ax), (1, .ref ao)]) (st' := [.ref ax, .int (Int32.ofInt (0)), .ref ao]) (h' := h) rfl ?_
  refine z_ok.call zJ_316.1 zJ_316.2.1 zJ_316.2.2 (i := (54, 121, 0, 8)) rfl (z_fin_no (by decide)) (zcal54 (xs := []) (rest := [.int (Int32.ofInt (0)), .ref ao]) (by omega) rfl rfl he rfl (Nat.le_of_ble_eq_true rfl) (M' := z_m121) rfl (Nat.le_of_ble_eq_true rfl)) (z_ok.imp (zS_121 (sx := sx) (d := d - 1) H (by omega) T E ha hB) (fun o h1 x y q => ?_))
  obtain ⟨ty1, X1, T1, E1, F1, P1, q⟩ := q
  have ha1 := X1 ax 1 ha
  have ho1 := X1 ao 33 ho
  cases o with
  | inl v =>
    obtain ⟨⟨c, rfl⟩, q1, q2⟩ := q
    show z_ok sx d 316 4 [(0, .ref ax), (1, .ref ao)] [.int c, .int (Int32.ofInt (0)), .ref ao] h1 _
    refine zh zJ_316 (i := (19, 0, 0, 0)) rfl rfl (k' := 5) (lo' := [(0, .ref ax), (1, .ref ao)]) (st' := [.long c.toInt64, .int (Int32.ofInt (0)), .ref ao]) (h' := h1) rfl ?_
    refine zlstore zJ_316 rfl (k' := 6) rfl T1 E1 ho1 (fun h2 T2 E2 F2 => ?_)
    refine zh zJ_316 (i := (30, 10, 0, 0)) rfl rfl (k' := 10) (lo' := [(0, .ref ax), (1, .ref ao)]) (st' := []) (h' := h2) rfl ?_
    refine zh zJ_316 (i := (0, 0, 0, 0)) rfl rfl (k' := 11) (lo' := [(0, .ref ax), (1, .ref ao)]) (st' := [.int (Int32.ofInt (0))]) (h' := h2) rfl ?_
    refine zh_iret zJ_316 (a := 0) (b := 0) (z := 0) rfl (Or.inl rfl) ?_
    exact ⟨_, ty1, rfl, X1, T2, E2, (F1.wide (by decide +kernel)).tr X1 (F2.wide (by decide +kernel)), P1.keep ha1 T2 zExt.rf F2 (zNin _ _ _ (by decide +kernel)) (zNin _ _ _ (by decide +kernel)), by omega, by omega⟩
  | inr e =>
    obtain ⟨q1, q2, q3⟩ := q
    have q1 := List.mem_singleton.mp q1
    subst q1
    refine ⟨rfl, ?_⟩
    show z_ok sx d 316 8 [(0, .ref ax), (1, .ref ao)] [] h1 _
    refine zh zJ_316 (i := (0, 0, 0, 1)) rfl rfl (k' := 9) (lo' := [(0, .ref ax), (1, .ref ao)]) (st' := [.int (Int32.ofInt (1))]) (h' := h1) rfl ?_
    refine zh_iret zJ_316 (a := 0) (b := 0) (z := 0) rfl (Or.inl rfl) ?_
    exact ⟨_, ty1, rfl, X1, T1, E1, F1.wide (by decide +kernel), P1, by omega, by omega⟩
theorem zJ_333 : zJ3 333 z_m333 z_c333 z_h333 := ⟨rfl, rfl, rfl⟩
set_option maxRecDepth 100000 in
theorem zS_333 {sx : zX} {d : Nat} {ty : List Nat} {h : zH} {ax ao : Nat} {v : Int32} (H : ∀ c, c < 151 → ∀ c', zCtl[c]? = some c' → zVd z_tt zE1 c') (hd : 7 ≤ d) (hv : 0 ≤ v.toInt ∧ v.toInt ≤ 1) (T : zTY z_tt ty h) (E : zE1 ty h) (ha : ty[ax]? = some 1) (ho : ty[ao]? = some 33) : z_ok sx d 333 0 (lv_args 0 [.ref ax, .int v, .ref ao]) [] h (zWr ty h ax [(2, 1, 1), (33, 0, 0)] 1 6) := by
  show z_ok sx d 333 0 [(0, .ref ax), (1, .int v), (2, .ref ao)] [] h _
  obtain ⟨fs, he, hl⟩ := zcell0 (c := 8) (n := 8) T ha rfl rfl rfl
  refine zh zJ_333 (i := (2, 2, 0, 0)) rfl rfl (k' := 1) (lo' := [(0, .ref ax), (1, .int v), (2, .ref ao)]) (st' := [.ref ao]) (h' := h) rfl ?_
  refine zh zJ_333 (i := (0, 0, 0, 0)) rfl rfl (k' := 2) (lo' := [(0, .ref ax), (1, .int v), (2, .ref ao)]) (st' := [.int (Int32.ofInt (0)), .ref ao]) (h' := h) rfl ?_
  refine zh zJ_333 (i := (2, 0, 0, 0)) rfl rfl (k' := 3) (lo' := [(0, .ref ax), (1, .int v), (2, .ref ao)]) (st' := [.ref ax, .int (Int32.ofInt (0)), .ref ao]) (h' := h) rfl ?_
  refine zh zJ_333 (i := (1, 1, 0, 0)) rfl rfl (k' := 4) (lo' := [(0, .ref ax), (1, .int v), (2, .ref ao)]) (st' := [.int v, .ref ax, .int (Int32.ofInt (0)), .ref ao]) (h' := h) rfl ?_
  refine z_ok.call zJ_333.1 zJ_333.2.1 zJ_333.2.2 (i := (54, 146, 1, 8)) rfl (z_fin_no (by decide)) (zcal54 (xs := [.int v]) (rest := [.int (Int32.ofInt (0)), .ref ao]) (by omega) rfl rfl he rfl (Nat.le_of_ble_eq_true rfl) (M' := z_m146) rfl (Nat.le_of_ble_eq_true rfl)) (z_ok.imp (zS_146 (sx := sx) (d := d - 1) H (by omega) T E ha hv) (fun o h1 x y q => ?_))
  obtain ⟨ty1, X1, T1, E1, F1, P1, q⟩ := q
  have ha1 := X1 ax 1 ha
  have ho1 := X1 ao 33 ho
  cases o with
  | inl v =>
    obtain ⟨⟨c, rfl⟩, q1, q2⟩ := q
    show z_ok sx d 333 5 [(0, .ref ax), (1, .int v), (2, .ref ao)] [.int c, .int (Int32.ofInt (0)), .ref ao] h1 _
    refine zh zJ_333 (i := (19, 0, 0, 0)) rfl rfl (k' := 6) (lo' := [(0, .ref ax), (1, .int v), (2, .ref ao)]) (st' := [.long c.toInt64, .int (Int32.ofInt (0)), .ref ao]) (h' := h1) rfl ?_
    refine zlstore zJ_333 rfl (k' := 7) rfl T1 E1 ho1 (fun h2 T2 E2 F2 => ?_)
    refine zh zJ_333 (i := (30, 11, 0, 0)) rfl rfl (k' := 11) (lo' := [(0, .ref ax), (1, .int v), (2, .ref ao)]) (st' := []) (h' := h2) rfl ?_
    refine zh zJ_333 (i := (0, 0, 0, 0)) rfl rfl (k' := 12) (lo' := [(0, .ref ax), (1, .int v), (2, .ref ao)]) (st' := [.int (Int32.ofInt (0))]) (h' := h2) rfl ?_
    refine zh_iret zJ_333 (a := 0) (b := 0) (z := 0) rfl (Or.inl rfl) ?_
    exact ⟨_, ty1, rfl, X1, T2, E2, (F1.wide (by decide +kernel)).tr X1 (F2.wide (by decide +kernel)), P1.keep ha1 T2 zExt.rf F2 (zNin _ _ _ (by decide +kernel)) (zNin _ _ _ (by decide +kernel)), by omega, by omega⟩
  | inr e =>
    obtain ⟨q1, q2, q3⟩ := q
    have q1 := List.mem_singleton.mp q1
    subst q1
    refine ⟨rfl, ?_⟩
    show z_ok sx d 333 9 [(0, .ref ax), (1, .int v), (2, .ref ao)] [] h1 _
    refine zh zJ_333 (i := (0, 0, 0, 1)) rfl rfl (k' := 10) (lo' := [(0, .ref ax), (1, .int v), (2, .ref ao)]) (st' := [.int (Int32.ofInt (1))]) (h' := h1) rfl ?_
    refine zh_iret zJ_333 (a := 0) (b := 0) (z := 0) rfl (Or.inl rfl) ?_
    exact ⟨_, ty1, rfl, X1, T1, E1, F1.wide (by decide +kernel), P1, by omega, by omega⟩
theorem zJ_299 : zJ3 299 z_m299 z_c299 z_h299 := ⟨rfl, rfl, rfl⟩
noncomputable def zY2 : zCut := (2, [(0, (2, 20, 20)), (1, (0, 0, 1))], [], [(0, 0, 0, 3), (0, 0, 0, 0), (0, 0, 0, 0)])
noncomputable def zY12 : zCut := (12, [(0, (2, 20, 20)), (1, (0, 0, 1)), (2, (0, 0, 1)), (3, (0, 0, 400))], [(0, 11, (0, 0, 400))], [(0, 0, 0, 2), (1, 3, 0, 400), (0, 0, 0, 1)])
noncomputable def zY46 : zCut := (46, [(0, (2, 20, 20)), (1, (0, 0, 1)), (2, (0, 1, 1)), (3, (0, 0, 63)), (4, (0, 0, 2147483647)), (5, (0, 0, 400))], [(0, 1, (2, 21, 21)), (0, 11, (0, 0, 400))], [(0, 0, 0, 1), (1, 5, 0, 400), (0, 0, 0, 1)])
noncomputable def zC_wm : zCt := (299, [(2, 20, 20), (0, 0, 1)], [(0, 0, 9999)], [], [(20, 0, 0)], 6, (0, 0, 0, 0), [zY2, zY12, zY46])
theorem zK_wm2 : zx z_tt zCtl zCand 216 zC_wm (some zY2) 4000 (zc_st zC_wm zY2) = true := by decide +kernel
theorem zK_wm12 : zx z_tt zCtl zCand 216 zC_wm (some zY12) 4000 (zc_st zC_wm zY12) = true := by decide +kernel
theorem zK_wm46 : zx z_tt zCtl zCand 216 zC_wm (some zY46) 4000 (zc_st zC_wm zY46) = true := by decide +kernel
set_option maxRecDepth 100000 in
theorem zS_299 {sx : zX} {ty : List Nat} {a d : Nat} {h : zH} {v : Int32} (H : ∀ c, c < 216 → ∀ c', zCtl[c]? = some c' → zVd z_tt zE1 c') (hd : 6 ≤ d) (T : zTY z_tt ty h) (E : zE1 ty h) (ha : ty[a]? = some 20) (hv : 0 ≤ v.toInt ∧ v.toInt ≤ 1) : z_ok sx d 299 0 (lv_args 0 [.ref a, .int v]) [] h (zRq (fun v h' => (∃ c : Int32, v = some (.int c)) ∧ ∃ ty', zExt ty ty' ∧ zTY z_tt ty' h' ∧ zE1 ty' h' ∧ zFm [(20, 0, 0), (20, 9, 11)] ty h h' ∧ zNi h' a)) := by
  show z_ok sx d 299 0 [(0, .ref a), (1, .int v)] [] h _
  refine zh zJ_299 (i := (2, 0, 0, 0)) rfl rfl (k' := 1) (lo' := [(0, .ref a), (1, .int v)]) (st' := [.ref a]) (h' := h) rfl ?_
  obtain ⟨fs, he, hl⟩ := zcell0 (c := 9) (n := 23) T ha rfl rfl rfl
  refine zh_run (rest := []) (as := [.ref a]) zJ_299 (i := (54, 210, 0, 9)) rfl (by decide) (zcal54 (xs := []) (by omega) rfl rfl he rfl (Nat.le_of_ble_eq_true rfl) (M' := z_m210) rfl (Nat.le_of_ble_eq_true rfl)) (zS_210 T E ha) (fun o hh x y q => ?_)
  obtain ⟨v9, rfl, rfl, rfl, rfl, T1, E1, F1, N1⟩ := q
  refine ⟨_, rfl, rfl, rfl, ?_⟩
  have hgo := zcut_ok (sx := sx) (d0 := d) (ty0 := ty) (h0 := hh) (ct := zC_wm) (own := 216) (cts := zCtl) (cand := zCand) (N := 3) (fuel := 4000) (zE1_stable (by decide +kernel)) hd (fun c hc c' hc' => H c hc c' hc') (by decide +kernel) (fun c hc => by
    rcases List.mem_cons.mp hc with rfl | hc
    · exact zK_wm2
    rcases List.mem_cons.mp hc with rfl | hc
    · exact zK_wm12
    · rw [List.mem_singleton.mp hc]; exact zK_wm46) (zY2.2.2.2.map (zmc [(0, .ref a), (1, .int v)] hh)) rfl zY2 List.mem_cons_self ty [(0, .ref a), (1, .int v)] hh [.ref a, .int v] [] rfl zExt.rf T1 E1 zFm.rf ⟨rfl, ⟨a, 20, rfl, ha, Int.le_refl _, Int.le_refl _⟩, rfl, ⟨v, rfl, hv.1, hv.2⟩, trivial⟩ trivial
  refine z_ok.imp hgo (fun o h2 x y q => ?_)
  have q : zPo z_tt zE1 zC_wm ty hh o h2 (x + 0) (y + 0) := q
  obtain ⟨ty', X, T2, E2, F2, q⟩ := q
  cases o with
  | inr e => exact absurd q.1 List.not_mem_nil
  | inl v =>
  obtain ⟨q1, q2, q3⟩ := q
  have q2 : x + 0 ≤ 0 := q2
  have q3 : y + 0 ≤ 0 := q3
  cases v with
  | none => exact q1.elim
  | some v =>
  obtain ⟨c, rfl, c1, c2⟩ := q1
  exact ⟨_, rfl, by omega, by omega, ⟨c, rfl⟩, ty', X, T2, E2, (F1.wide (by decide +kernel)).tr zExt.rf (F2.wide (by decide +kernel)), N1.keep' T2 X ha F2 (zNin _ _ _ (by decide +kernel))⟩
end
section
/-! PARTIAL CORRECTNESS: whatever a run ends with. The state as functions of places (za), each step a transformer of what is owed (qts), cut points with what holds there (zfl); nothing of safety is asked: that a run ends is proved elsewhere. Printed with wip/gen/gen_fl.py -/
abbrev zLf : Type := Nat → Value
abbrev zSg : Type := (Nat → Nat → Value) × (Nat → Nat) × Nat
abbrev zKo : Type := Nat → zLf → List Value → zSg → Prop
abbrev zTr : Type := zX → Nat → Nat → Int → Nat → zLf → List Value → zSg → zKo → Prop
abbrev zPp : Type := List Value → zSg → zO → zSg → Prop
noncomputable def q_i (v : Value) : Int32 := match v with
  | .int x => x
  | _ => 0
noncomputable def q_l (v : Value) : Int64 := match v with
  | .long x => x
  | _ => 0
noncomputable def q_r (v : Value) : Nat := match v with
  | .ref i => i
  | _ => 0
noncomputable def q_st (lo : zLf) (a : Nat) (v : Value) : zLf := fun i => bif Nat.beq i a then v else lo i
noncomputable def q_up (s : Nat → Nat → Value) (c k : Nat) (v : Value) : Nat → Nat → Value := fun c' k' => if c' = c ∧ k' = k then v else s c' k'
noncomputable def q_w (σ : zSg) (c k : Nat) (v : Value) : zSg := (q_up σ.1 c k v, σ.2)
noncomputable def q_nw (σ : zSg) (f : Nat → Value) (n : Nat) : zSg := (fun c k => if c = σ.2.2 then f k else σ.1 c k, fun c => if c = σ.2.2 then n else σ.2.1 c, σ.2.2 + 1)
noncomputable def q_cp (σ : zSg) (i0 i1 sp dp n : Nat) : zSg := (fun c k => if c = i1 ∧ dp ≤ k ∧ k < dp + n then σ.1 i0 (sp + (k - dp)) else σ.1 c k, σ.2)
noncomputable def q_so (o : Option (String × Nat × String × List Int32)) : List Int32 := match o with
  | some q => q.2.2.2
  | none => []
noncomputable def q_s (i : Nat) : List Int32 := q_so z_strs[i - zB]?
/-- what a place of an object holds: 0 an int, 1 a cell, 2 a cell or nothing -/
noncomputable def q_kd (c b : Nat) : Nat := match (z_df.getD c []).getD b .null with
  | .int _ => 0
  | _ => bif Nat.beq c 2 || (Nat.beq c 1 && Nat.beq b 5) then 2 else 1
noncomputable def q_ld (k : Nat) (v : Value) : Value := match k with
  | 0 => .int (q_i v)
  | 1 => .ref (q_r v)
  | _ => v
noncomputable def q_pk (c : Int) (k : Nat) : Bool := (Nat.beq k 0 && (decide (c = 0) || decide (c = 1))) || (Nat.beq k 2 && decide (c = 2))
/-- a heap as functions -/
noncomputable def zv (h : zH) (c k : Nat) : Value := match h[c]? with
  | some e => (z_rd e k).getD .null
  | none => .null
noncomputable def zvl (h : zH) (c : Nat) : Nat := match h[c]? with
  | some (.inl (_, (n, _))) => n
  | _ => 0
noncomputable def q_n (e : zE) : Nat := match e with
  | .inl (_, (n, _)) => n
  | _ => 0
noncomputable def za (h : zH) : zSg := (zv h, zvl h, h.length)
noncomputable def zKh (h : zH) : Prop := (∀ (i c : Nat) (fs : List Value) (b : Nat) (v : Value), h[i]? = some (.inr (c, fs)) → fs[b]? = some v → q_ld (q_kd c b) v = v) ∧ ∀ (i n : Nat) (f : Nat → Option Nat), h[i]? = some (.inl (3, (n, .inr (.inr (.inr (.inr f)))))) → ∀ j, j < n → ∃ r, f j = some r
noncomputable def zLr (l : zL) (lo : zLf) : Prop := ∀ q ∈ l, lo q.1 = q.2
theorem zLr.get {l : zL} {lo : zLf} {i : Nat} {v : Value} (H : zLr l lo) (h : z_get l i = some v) : lo i = v := H _ (z_get_mem h)
theorem q_st_eq (lo : zLf) (a : Nat) (v : Value) : q_st lo a v a = v := by
  unfold q_st
  rw [Nat.beq_refl]
  rfl
theorem q_st_ne {lo : zLf} {a i : Nat} {v : Value} (h : i ≠ a) : q_st lo a v i = lo i := by
  unfold q_st
  have : Nat.beq i a = false := by
    cases hb : Nat.beq i a with
    | false => rfl
    | true => exact absurd (Nat.eq_of_beq_eq_true hb) h
  rw [this]
  rfl
theorem zLr.set1 {l : zL} {lo : zLf} {a : Nat} {v : Value} (H : zLr l lo) : zLr (z_set1 l a v) (q_st lo a v) := by
  intro q hq
  rcases List.mem_cons.mp hq with e | e
  · rw [e]; exact q_st_eq lo a v
  · obtain ⟨h1, h2⟩ := List.mem_filter.mp e
    rw [Bool.and_eq_true] at h2
    have : q.1 ≠ a := by simpa using h2.1
    rw [q_st_ne this]
    exact H q h1
theorem zLr.set2 {l : zL} {lo : zLf} {a : Nat} {v : Value} (H : zLr l lo) : zLr (z_set2 l a v) (q_st lo a v) := by
  intro q hq
  rcases List.mem_cons.mp hq with e | e
  · rw [e]; exact q_st_eq lo a v
  · obtain ⟨h1, h2⟩ := List.mem_filter.mp e
    rw [Bool.and_eq_true] at h2
    have : q.1 ≠ a := by simpa using h2.1
    rw [q_st_ne this]
    exact H q h1
theorem zLr.drop {l : zL} {lo : zLf} {x : Nat} (H : zLr l lo) : zLr (z_drop l x) lo := fun q hq => H q (List.mem_filter.mp hq).1
theorem zLr.args : ∀ (as : List Value) (n : Nat) (lo : zLf), (∀ v ∈ as, v.category = 1) → (∀ i, lo (n + i) = as.getD i .null) → zLr (lv_args n as) lo
  | [], n, lo, hc, hl => fun q hq => by cases hq
  | v :: vs, n, lo, hc, hl => by
    intro q hq
    have hv : ¬ v.category = 2 := by rw [hc v List.mem_cons_self]; decide
    unfold lv_args at hq
    rw [if_neg hv] at hq
    rcases List.mem_cons.mp hq with e | e
    · rw [e]
      exact hl 0
    · exact zLr.args vs (n + 1) lo (fun w hw => hc w (List.mem_cons_of_mem _ hw)) (fun i => by
        have := hl (i + 1)
        rw [show n + 1 + i = n + (i + 1) by omega, this]
        rfl) q e
/-! what a place holds behind a write -/
theorem zv_at {h : zH} {c k : Nat} {e : zE} (he : h[c]? = some e) : zv h c k = (z_rd e k).getD .null := by
  unfold zv
  rw [he]
theorem zv_set {h : zH} {c : Nat} {e e' : zE} {b : Nat} {v : Value} (he : h[c]? = some e) (hr : ∀ j, z_rd e' j = if j = b then some v else z_rd e j) : zv (h.set c e') = q_up (zv h) c b v := by
  have hl := (List.getElem?_eq_some_iff.mp he).1
  funext c' k'
  unfold q_up
  by_cases hc : c' = c
  · subst hc
    rw [zv_at (List.getElem?_set_self hl), hr k']
    by_cases hk : k' = b
    · rw [if_pos hk, if_pos ⟨rfl, hk⟩]
      rfl
    · rw [if_neg hk, if_neg (fun q => hk q.2), zv_at he]
  · rw [if_neg (fun q => hc q.1)]
    unfold zv
    rw [List.getElem?_set_ne (fun q => hc q.symm)]
theorem zvl_set {h : zH} {c : Nat} {e e' : zE} (he : h[c]? = some e) (hn : q_n e' = q_n e) : zvl (h.set c e') = zvl h := by
  have hl := (List.getElem?_eq_some_iff.mp he).1
  funext c'
  unfold zvl
  by_cases hc : c' = c
  · subst hc
    rw [List.getElem?_set_self hl, he]
    obtain ⟨t, n, x⟩ | ⟨c, fs⟩ := e <;> obtain ⟨t', n', x'⟩ | ⟨c', fs'⟩ := e' <;> exact hn
  · rw [List.getElem?_set_ne (fun q => hc q.symm)]
theorem za_set {h : zH} {c : Nat} {e e' : zE} {b : Nat} {v : Value} (he : h[c]? = some e) (hr : ∀ j, z_rd e' j = if j = b then some v else z_rd e j) (hn : q_n e' = q_n e) : za (h.set c e') = q_w (za h) c b v := by
  unfold za q_w
  rw [zv_set he hr, zvl_set he hn, List.length_set]
theorem za_push {h : zH} {e : zE} {f : Nat → Value} {n : Nat} (hf : ∀ k, (z_rd e k).getD .null = f k) (hn : q_n e = n) : za (h ++ [e]) = q_nw (za h) f n := by
  unfold za q_nw
  refine Prod.ext ?_ (Prod.ext ?_ ?_)
  · funext c k
    show zv (h ++ [e]) c k = if c = h.length then f k else zv h c k
    by_cases hc : c = h.length
    · subst hc
      rw [if_pos rfl, zv_at (e := e) (by simp), hf]
    · rw [if_neg hc]
      unfold zv
      by_cases hl : c < h.length
      · rw [List.getElem?_append_left hl]
      · rw [List.getElem?_eq_none (by rw [List.length_append, List.length_singleton]; omega), List.getElem?_eq_none (by omega)]
  · funext c
    show zvl (h ++ [e]) c = if c = h.length then n else zvl h c
    by_cases hc : c = h.length
    · subst hc
      rw [if_pos rfl]
      unfold zvl
      rw [show (h ++ [e])[h.length]? = some e by simp]
      obtain ⟨t, m, x⟩ | ⟨c, fs⟩ := e <;> exact hn
    · rw [if_neg hc]
      unfold zvl
      by_cases hl : c < h.length
      · rw [List.getElem?_append_left hl]
      · rw [List.getElem?_eq_none (by rw [List.length_append, List.length_singleton]; omega), List.getElem?_eq_none (by omega)]
  · show (h ++ [e]).length = h.length + 1
    rw [List.length_append, List.length_singleton]
theorem zKh.arr {h : zH} {c t n : Nat} {x y : (Nat → Int32) ⊕ (Nat → Int64) ⊕ (Nat → UInt32) ⊕ (Nat → UInt64) ⊕ (Nat → Option Nat)} (H : zKh h) (ht : t ≠ 3) : zKh (h.set c (.inl (t, (n, y)))) := by
  refine ⟨fun i c' fs b v he hv => ?_, fun i m f he j hj => ?_⟩
  · by_cases hi : i = c
    · subst hi
      by_cases hl : i < h.length
      · rw [List.getElem?_set_self hl] at he; cases he
      · rw [List.getElem?_eq_none (by rw [List.length_set]; omega)] at he; cases he
    · rw [List.getElem?_set_ne (fun q => hi q.symm)] at he
      exact H.1 i c' fs b v he hv
  · by_cases hi : i = c
    · subst hi
      by_cases hl : i < h.length
      · rw [List.getElem?_set_self hl] at he
        simp only [Option.some.injEq, Sum.inl.injEq, Prod.mk.injEq] at he
        exact absurd he.1 ht
      · rw [List.getElem?_eq_none (by rw [List.length_set]; omega)] at he; cases he
    · rw [List.getElem?_set_ne (fun q => hi q.symm)] at he
      exact H.2 i m f he j hj
theorem zKh.obj {h : zH} {a c b : Nat} {fs : List Value} {v : Value} (H : zKh h) (he : h[a]? = some (.inr (c, fs))) (hv : q_ld (q_kd c b) v = v) : zKh (h.set a (.inr (c, fs.set b v))) := by
  have hl := (List.getElem?_eq_some_iff.mp he).1
  refine ⟨fun i c' fs' b' w hi hw => ?_, fun i m f hi j hj => ?_⟩
  · by_cases hia : i = a
    · subst hia
      rw [List.getElem?_set_self hl] at hi
      cases hi
      by_cases hb : b' = b
      · subst hb
        by_cases hbl : b' < fs.length
        · rw [List.getElem?_set_self hbl] at hw
          cases hw
          exact hv
        · rw [List.getElem?_eq_none (by rw [List.length_set]; omega)] at hw; cases hw
      · rw [List.getElem?_set_ne (fun q => hb q.symm)] at hw
        exact H.1 i c fs b' w he hw
    · rw [List.getElem?_set_ne (fun q => hia q.symm)] at hi
      exact H.1 i c' fs' b' w hi hw
  · by_cases hia : i = a
    · subst hia
      rw [List.getElem?_set_self hl] at hi; cases hi
    · rw [List.getElem?_set_ne (fun q => hia q.symm)] at hi
      exact H.2 i m f hi j hj
theorem zKh.push {h : zH} {e : zE} (H : zKh h) (h1 : ∀ (c : Nat) (fs : List Value) (b : Nat) (v : Value), e = .inr (c, fs) → fs[b]? = some v → q_ld (q_kd c b) v = v) (h2 : ∀ (n : Nat) (f : Nat → Option Nat), e ≠ .inl (3, (n, .inr (.inr (.inr (.inr f)))))) : zKh (h ++ [e]) := by
  refine ⟨fun i c fs b v hi hv => ?_, fun i m f hi j hj => ?_⟩
  · by_cases hl : i < h.length
    · rw [List.getElem?_append_left hl] at hi
      exact H.1 i c fs b v hi hv
    · rw [List.getElem?_append_right (by omega)] at hi
      cases hd : i - h.length with
      | zero =>
        rw [hd] at hi
        simp only [List.getElem?_cons_zero, Option.some.injEq] at hi
        exact h1 c fs b v hi hv
      | succ n => rw [hd] at hi; simp at hi
  · by_cases hl : i < h.length
    · rw [List.getElem?_append_left hl] at hi
      exact H.2 i m f hi j hj
    · rw [List.getElem?_append_right (by omega)] at hi
      cases hd : i - h.length with
      | zero =>
        rw [hd] at hi
        simp only [List.getElem?_cons_zero, Option.some.injEq] at hi
        exact absurd hi (h2 m f)
      | succ n => rw [hd] at hi; simp at hi
/-! the steps -/
noncomputable def zSo (o : zNop) (t : zTr) : Prop := ∀ (sx : zX) (d a b : Nat) (c : Int) (k : Nat) (l : zL) (st : List Value) (h : zH) (k' : Nat) (l' : zL) (st' : List Value) (h' : zH) (x y : Nat) (lo : zLf) (K : zKo), zKh h → zLr l lo → o sx d a b c k l st h = some (k', l', st', h', x, y) → t sx a b c k lo st (za h) K → zKh h' ∧ ∃ lo', zLr l' lo' ∧ K k' lo' st' (za h')
noncomputable def qt_no : zTr := fun _ _ _ _ _ _ _ _ _ => False
theorem qs_no {o : zNop} : zSo o qt_no := fun _ _ _ _ _ _ _ _ _ _ _ _ _ _ _ _ _ _ _ _ h => h.elim
noncomputable def q_p1 (f : Value → Value) : zTr := fun _ _ _ _ k lo st σ K => match st with
  | v :: r => K (k + 1) lo (f v :: r) σ
  | _ => True
noncomputable def q_p2 (f : Value → Value → Value) : zTr := fun _ _ _ _ k lo st σ K => match st with
  | y :: x :: r => K (k + 1) lo (f x y :: r) σ
  | _ => True
noncomputable def qt_const : zTr := fun _ _ _ c k lo st σ K => K (k + 1) lo (.int (Int32.ofInt c) :: st) σ
noncomputable def qt_lconst : zTr := fun _ _ _ c k lo st σ K => K (k + 1) lo (.long (Int64.ofInt c) :: st) σ
noncomputable def qt_null : zTr := fun _ _ _ _ k lo st σ K => K (k + 1) lo (.null :: st) σ
noncomputable def qt_ldcs : zTr := fun _ a _ _ k lo st σ K => K (k + 1) lo (.ref (zB + a) :: st) σ
noncomputable def qt_goto : zTr := fun _ a _ _ _ lo st σ K => K a lo st σ
theorem qs_const : zSo zo_const qt_const := by
  intro sx d a b c k l st h k' l' st' h' x9 y9 lo K hK hL e H
  unfold zo_const at e
  obtain ⟨rfl, rfl, rfl, rfl, rfl, rfl⟩ := zn_inj e
  exact ⟨hK, lo, hL, H⟩
theorem qs_lconst : zSo zo_lconst qt_lconst := by
  intro sx d a b c k l st h k' l' st' h' x9 y9 lo K hK hL e H
  unfold zo_lconst at e
  obtain ⟨rfl, rfl, rfl, rfl, rfl, rfl⟩ := zn_inj e
  exact ⟨hK, lo, hL, H⟩
theorem qs_null : zSo zo_null qt_null := by
  intro sx d a b c k l st h k' l' st' h' x9 y9 lo K hK hL e H
  unfold zo_null at e
  obtain ⟨rfl, rfl, rfl, rfl, rfl, rfl⟩ := zn_inj e
  exact ⟨hK, lo, hL, H⟩
theorem qs_goto : zSo zo_goto qt_goto := by
  intro sx d a b c k l st h k' l' st' h' x9 y9 lo K hK hL e H
  unfold zo_goto at e
  obtain ⟨rfl, rfl, rfl, rfl, rfl, rfl⟩ := zn_inj e
  exact ⟨hK, lo, hL, H⟩
theorem qs_ldcs : zSo zo_ldcs qt_ldcs := by
  intro sx d a b c k l st h k' l' st' h' x9 y9 lo K hK hL e H
  unfold zo_ldcs at e
  repeat' split at e
  all_goals first
    | cases e; done
    | obtain ⟨rfl, rfl, rfl, rfl, rfl, rfl⟩ := zn_inj e
      exact ⟨hK, lo, hL, H⟩
noncomputable def qt_iload : zTr := fun _ a _ _ k lo st σ K => K (k + 1) lo (.int (q_i (lo a)) :: st) σ
theorem qs_iload : zSo zo_iload qt_iload := by
  intro sx d a b c k l st h k' l' st' h' x9 y9 lo K hK hL e H
  unfold zo_iload at e
  split at e
  case h_2 => cases e
  next x hx =>
  obtain ⟨rfl, rfl, rfl, rfl, rfl, rfl⟩ := zn_inj e
  refine ⟨hK, lo, hL, ?_⟩
  have H1 : K (k + 1) lo (.int (q_i (lo a)) :: st) (za h') := H
  rw [hL.get hx] at H1
  exact H1
noncomputable def qt_aload : zTr := fun _ a _ _ k lo st σ K => K (k + 1) lo (.ref (q_r (lo a)) :: st) σ
theorem qs_aload : zSo zo_aload qt_aload := by
  intro sx d a b c k l st h k' l' st' h' x9 y9 lo K hK hL e H
  unfold zo_aload at e
  split at e
  case h_2 => cases e
  next x hx =>
  obtain ⟨rfl, rfl, rfl, rfl, rfl, rfl⟩ := zn_inj e
  refine ⟨hK, lo, hL, ?_⟩
  have H1 : K (k + 1) lo (.ref (q_r (lo a)) :: st) (za h') := H
  rw [hL.get hx] at H1
  exact H1
noncomputable def qt_lload : zTr := fun _ a _ _ k lo st σ K => K (k + 1) lo (.long (q_l (lo a)) :: st) σ
theorem qs_lload : zSo zo_lload qt_lload := by
  intro sx d a b c k l st h k' l' st' h' x9 y9 lo K hK hL e H
  unfold zo_lload at e
  split at e
  case h_2 => cases e
  next x hx =>
  obtain ⟨rfl, rfl, rfl, rfl, rfl, rfl⟩ := zn_inj e
  refine ⟨hK, lo, hL, ?_⟩
  have H1 : K (k + 1) lo (.long (q_l (lo a)) :: st) (za h') := H
  rw [hL.get hx] at H1
  exact H1
noncomputable def qt_istore : zTr := fun _ a _ _ k lo st σ K => match st with
  | v :: r => K (k + 1) (q_st lo a (.int (q_i v))) r σ
  | _ => True
theorem qs_istore : zSo zo_istore qt_istore := by
  intro sx d a b c k l st h k' l' st' h' x9 y9 lo K hK hL e H
  unfold zo_istore at e
  repeat' split at e
  all_goals first
    | cases e; done
    | obtain ⟨rfl, rfl, rfl, rfl, rfl, rfl⟩ := zn_inj e
      exact ⟨hK, _, hL.set1, H⟩
noncomputable def qt_astore : zTr := fun _ a _ _ k lo st σ K => match st with
  | v :: r => K (k + 1) (q_st lo a (.ref (q_r v))) r σ
  | _ => True
theorem qs_astore : zSo zo_astore qt_astore := by
  intro sx d a b c k l st h k' l' st' h' x9 y9 lo K hK hL e H
  unfold zo_astore at e
  repeat' split at e
  all_goals first
    | cases e; done
    | obtain ⟨rfl, rfl, rfl, rfl, rfl, rfl⟩ := zn_inj e
      exact ⟨hK, _, hL.set1, H⟩
noncomputable def qt_lstore : zTr := fun _ a _ _ k lo st σ K => match st with
  | v :: r => K (k + 1) (q_st lo a (.long (q_l v))) r σ
  | _ => True
theorem qs_lstore : zSo zo_lstore qt_lstore := by
  intro sx d a b c k l st h k' l' st' h' x9 y9 lo K hK hL e H
  unfold zo_lstore at e
  repeat' split at e
  all_goals first
    | cases e; done
    | obtain ⟨rfl, rfl, rfl, rfl, rfl, rfl⟩ := zn_inj e
      exact ⟨hK, _, hL.set2, H⟩
noncomputable def qt_iinc : zTr := fun _ a _ c k lo st σ K => K (k + 1) (q_st lo a (.int (q_i (lo a) + Int32.ofInt c))) st σ
theorem qs_iinc : zSo zo_iinc qt_iinc := by
  intro sx d a b c k l st h k' l' st' h' x9 y9 lo K hK hL e H
  unfold zo_iinc at e
  split at e
  case h_2 => cases e
  next x hx =>
  obtain ⟨rfl, rfl, rfl, rfl, rfl, rfl⟩ := zn_inj e
  refine ⟨hK, _, hL.set1, ?_⟩
  have H1 : K (k + 1) (q_st lo a (.int (q_i (lo a) + Int32.ofInt c))) st' (za h') := H
  rw [hL.get hx] at H1
  exact H1
theorem qs_iadd : zSo zo_iadd (q_p2 (fun x y => .int ((fun x y : Int32 => x + y) (q_i x) (q_i y)))) := by
  intro sx d a b c k l st h k' l' st' h' x9 y9 lo K hK hL e H
  unfold zo_iadd at e
  repeat' split at e
  all_goals first
    | cases e; done
    | obtain ⟨rfl, rfl, rfl, rfl, rfl, rfl⟩ := zn_inj e
      exact ⟨hK, lo, hL, H⟩
theorem qs_isub : zSo zo_isub (q_p2 (fun x y => .int ((fun x y : Int32 => x - y) (q_i x) (q_i y)))) := by
  intro sx d a b c k l st h k' l' st' h' x9 y9 lo K hK hL e H
  unfold zo_isub at e
  repeat' split at e
  all_goals first
    | cases e; done
    | obtain ⟨rfl, rfl, rfl, rfl, rfl, rfl⟩ := zn_inj e
      exact ⟨hK, lo, hL, H⟩
theorem qs_imul : zSo zo_imul (q_p2 (fun x y => .int ((fun x y : Int32 => x * y) (q_i x) (q_i y)))) := by
  intro sx d a b c k l st h k' l' st' h' x9 y9 lo K hK hL e H
  unfold zo_imul at e
  repeat' split at e
  all_goals first
    | cases e; done
    | obtain ⟨rfl, rfl, rfl, rfl, rfl, rfl⟩ := zn_inj e
      exact ⟨hK, lo, hL, H⟩
theorem qs_idiv : zSo zo_idiv (q_p2 (fun x y => .int ((fun x y : Int32 => x / y) (q_i x) (q_i y)))) := by
  intro sx d a b c k l st h k' l' st' h' x9 y9 lo K hK hL e H
  unfold zo_idiv at e
  repeat' split at e
  all_goals first
    | cases e; done
    | obtain ⟨rfl, rfl, rfl, rfl, rfl, rfl⟩ := zn_inj e
      exact ⟨hK, lo, hL, H⟩
theorem qs_irem : zSo zo_irem (q_p2 (fun x y => .int ((fun x y : Int32 => x - x / y * y) (q_i x) (q_i y)))) := by
  intro sx d a b c k l st h k' l' st' h' x9 y9 lo K hK hL e H
  unfold zo_irem at e
  repeat' split at e
  all_goals first
    | cases e; done
    | obtain ⟨rfl, rfl, rfl, rfl, rfl, rfl⟩ := zn_inj e
      exact ⟨hK, lo, hL, H⟩
theorem qs_ishl : zSo zo_ishl (q_p2 (fun x y => .int ((fun x y : Int32 => x <<< (y &&& 31)) (q_i x) (q_i y)))) := by
  intro sx d a b c k l st h k' l' st' h' x9 y9 lo K hK hL e H
  unfold zo_ishl at e
  repeat' split at e
  all_goals first
    | cases e; done
    | obtain ⟨rfl, rfl, rfl, rfl, rfl, rfl⟩ := zn_inj e
      exact ⟨hK, lo, hL, H⟩
theorem qs_ishr : zSo zo_ishr (q_p2 (fun x y => .int ((fun x y : Int32 => x >>> (y &&& 31)) (q_i x) (q_i y)))) := by
  intro sx d a b c k l st h k' l' st' h' x9 y9 lo K hK hL e H
  unfold zo_ishr at e
  repeat' split at e
  all_goals first
    | cases e; done
    | obtain ⟨rfl, rfl, rfl, rfl, rfl, rfl⟩ := zn_inj e
      exact ⟨hK, lo, hL, H⟩
theorem qs_iushr : zSo zo_iushr (q_p2 (fun x y => .int ((fun x y : Int32 => (x.toUInt32 >>> (y.toUInt32 &&& Int32.toUInt32 31)).toInt32) (q_i x) (q_i y)))) := by
  intro sx d a b c k l st h k' l' st' h' x9 y9 lo K hK hL e H
  unfold zo_iushr at e
  repeat' split at e
  all_goals first
    | cases e; done
    | obtain ⟨rfl, rfl, rfl, rfl, rfl, rfl⟩ := zn_inj e
      exact ⟨hK, lo, hL, H⟩
theorem qs_iand : zSo zo_iand (q_p2 (fun x y => .int ((fun x y : Int32 => x &&& y) (q_i x) (q_i y)))) := by
  intro sx d a b c k l st h k' l' st' h' x9 y9 lo K hK hL e H
  unfold zo_iand at e
  repeat' split at e
  all_goals first
    | cases e; done
    | obtain ⟨rfl, rfl, rfl, rfl, rfl, rfl⟩ := zn_inj e
      exact ⟨hK, lo, hL, H⟩
theorem qs_ior : zSo zo_ior (q_p2 (fun x y => .int ((fun x y : Int32 => x ||| y) (q_i x) (q_i y)))) := by
  intro sx d a b c k l st h k' l' st' h' x9 y9 lo K hK hL e H
  unfold zo_ior at e
  repeat' split at e
  all_goals first
    | cases e; done
    | obtain ⟨rfl, rfl, rfl, rfl, rfl, rfl⟩ := zn_inj e
      exact ⟨hK, lo, hL, H⟩
theorem qs_ixor : zSo zo_ixor (q_p2 (fun x y => .int ((fun x y : Int32 => x ^^^ y) (q_i x) (q_i y)))) := by
  intro sx d a b c k l st h k' l' st' h' x9 y9 lo K hK hL e H
  unfold zo_ixor at e
  repeat' split at e
  all_goals first
    | cases e; done
    | obtain ⟨rfl, rfl, rfl, rfl, rfl, rfl⟩ := zn_inj e
      exact ⟨hK, lo, hL, H⟩
theorem qs_ladd : zSo zo_ladd (q_p2 (fun x y => .long ((fun x y : Int64 => x + y) (q_l x) (q_l y)))) := by
  intro sx d a b c k l st h k' l' st' h' x9 y9 lo K hK hL e H
  unfold zo_ladd at e
  repeat' split at e
  all_goals first
    | cases e; done
    | obtain ⟨rfl, rfl, rfl, rfl, rfl, rfl⟩ := zn_inj e
      exact ⟨hK, lo, hL, H⟩
theorem qs_lmul : zSo zo_lmul (q_p2 (fun x y => .long ((fun x y : Int64 => x * y) (q_l x) (q_l y)))) := by
  intro sx d a b c k l st h k' l' st' h' x9 y9 lo K hK hL e H
  unfold zo_lmul at e
  repeat' split at e
  all_goals first
    | cases e; done
    | obtain ⟨rfl, rfl, rfl, rfl, rfl, rfl⟩ := zn_inj e
      exact ⟨hK, lo, hL, H⟩
theorem qs_ldiv : zSo zo_ldiv (q_p2 (fun x y => .long ((fun x y : Int64 => x / y) (q_l x) (q_l y)))) := by
  intro sx d a b c k l st h k' l' st' h' x9 y9 lo K hK hL e H
  unfold zo_ldiv at e
  repeat' split at e
  all_goals first
    | cases e; done
    | obtain ⟨rfl, rfl, rfl, rfl, rfl, rfl⟩ := zn_inj e
      exact ⟨hK, lo, hL, H⟩
theorem qs_lcmp : zSo zo_lcmp (q_p2 (fun x y => .int (lg_cmp (q_l x) (q_l y)))) := by
  intro sx d a b c k l st h k' l' st' h' x9 y9 lo K hK hL e H
  unfold zo_lcmp at e
  repeat' split at e
  all_goals first
    | cases e; done
    | obtain ⟨rfl, rfl, rfl, rfl, rfl, rfl⟩ := zn_inj e
      exact ⟨hK, lo, hL, H⟩
theorem qs_i2l : zSo zo_i2l (q_p1 (fun x => .long (q_i x).toInt64)) := by
  intro sx d a b c k l st h k' l' st' h' x9 y9 lo K hK hL e H
  unfold zo_i2l at e
  repeat' split at e
  all_goals first
    | cases e; done
    | obtain ⟨rfl, rfl, rfl, rfl, rfl, rfl⟩ := zn_inj e
      exact ⟨hK, lo, hL, H⟩
theorem qs_l2i : zSo zo_l2i (q_p1 (fun x => .int (q_l x).toInt32)) := by
  intro sx d a b c k l st h k' l' st' h' x9 y9 lo K hK hL e H
  unfold zo_l2i at e
  repeat' split at e
  all_goals first
    | cases e; done
    | obtain ⟨rfl, rfl, rfl, rfl, rfl, rfl⟩ := zn_inj e
      exact ⟨hK, lo, hL, H⟩
theorem qs_i2b : zSo zo_i2b (q_p1 (fun x => .int (q_i x).toInt8.toInt32)) := by
  intro sx d a b c k l st h k' l' st' h' x9 y9 lo K hK hL e H
  unfold zo_i2b at e
  repeat' split at e
  all_goals first
    | cases e; done
    | obtain ⟨rfl, rfl, rfl, rfl, rfl, rfl⟩ := zn_inj e
      exact ⟨hK, lo, hL, H⟩
noncomputable def qt_dup : zTr := fun _ _ _ _ k lo st σ K => match st with
  | v :: r => K (k + 1) lo (v :: v :: r) σ
  | _ => True
noncomputable def qt_dup2 : zTr := fun _ _ _ _ k lo st σ K => match st with
  | v :: w :: r => K (k + 1) lo (v :: w :: v :: w :: r) σ
  | _ => True
noncomputable def qt_pop : zTr := fun _ _ _ _ k lo st σ K => match st with
  | _ :: r => K (k + 1) lo r σ
  | _ => True
theorem qs_dup : zSo zo_dup qt_dup := by
  intro sx d a b c k l st h k' l' st' h' x9 y9 lo K hK hL e H
  unfold zo_dup at e
  repeat' split at e
  all_goals first
    | cases e; done
    | obtain ⟨rfl, rfl, rfl, rfl, rfl, rfl⟩ := zn_inj e
      exact ⟨hK, lo, hL, H⟩
theorem qs_dup2 : zSo zo_dup2 qt_dup2 := by
  intro sx d a b c k l st h k' l' st' h' x9 y9 lo K hK hL e H
  unfold zo_dup2 at e
  repeat' split at e
  all_goals first
    | cases e; done
    | obtain ⟨rfl, rfl, rfl, rfl, rfl, rfl⟩ := zn_inj e
      exact ⟨hK, lo, hL, H⟩
theorem qs_pop : zSo zo_pop qt_pop := by
  intro sx d a b c k l st h k' l' st' h' x9 y9 lo K hK hL e H
  unfold zo_pop at e
  repeat' split at e
  all_goals first
    | cases e; done
    | obtain ⟨rfl, rfl, rfl, rfl, rfl, rfl⟩ := zn_inj e
      exact ⟨hK, lo, hL, H⟩
noncomputable def qt_if : zTr := fun _ a b _ k lo st σ K => match st with
  | v :: r => (z_cmp b (q_i v) 0 = true → K a lo r σ) ∧ (z_cmp b (q_i v) 0 = false → K (k + 1) lo r σ)
  | _ => True
noncomputable def qt_icmp : zTr := fun _ a b _ k lo st σ K => match st with
  | y :: x :: r => (z_cmp b (q_i x) (q_i y) = true → K a lo r σ) ∧ (z_cmp b (q_i x) (q_i y) = false → K (k + 1) lo r σ)
  | _ => True
noncomputable def qt_ifnn : zTr := fun _ a _ _ k lo st σ K => match st with
  | v :: r => (v ≠ .null → K a lo r σ) ∧ (v = .null → K (k + 1) lo r σ)
  | _ => True
theorem qs_if : zSo zo_if qt_if := by
  intro sx d a b c k l st h k' l' st' h' x9 y9 lo K hK hL e H
  unfold zo_if at e
  split at e
  case h_2 => cases e
  next x r =>
  obtain ⟨rfl, rfl, rfl, rfl, rfl, rfl⟩ := zn_inj e
  refine ⟨hK, lo, hL, ?_⟩
  have H1 : (z_cmp b x 0 = true → K a lo st' (za h')) ∧ (z_cmp b x 0 = false → K (k + 1) lo st' (za h')) := H
  cases hc : z_cmp b x 0 with
  | true => exact H1.1 hc
  | false => exact H1.2 hc
theorem qs_icmp : zSo zo_icmp qt_icmp := by
  intro sx d a b c k l st h k' l' st' h' x9 y9 lo K hK hL e H
  unfold zo_icmp at e
  split at e
  case h_2 => cases e
  next y x r =>
  obtain ⟨rfl, rfl, rfl, rfl, rfl, rfl⟩ := zn_inj e
  refine ⟨hK, lo, hL, ?_⟩
  have H1 : (z_cmp b x y = true → K a lo st' (za h')) ∧ (z_cmp b x y = false → K (k + 1) lo st' (za h')) := H
  cases hc : z_cmp b x y with
  | true => exact H1.1 hc
  | false => exact H1.2 hc
theorem qs_ifnn : zSo zo_ifnn qt_ifnn := by
  intro sx d a b c k l st h k' l' st' h' x9 y9 lo K hK hL e H
  unfold zo_ifnn at e
  split at e
  · obtain ⟨rfl, rfl, rfl, rfl, rfl, rfl⟩ := zn_inj e
    exact ⟨hK, lo, hL, H.1 (fun q => by cases q)⟩
  · obtain ⟨rfl, rfl, rfl, rfl, rfl, rfl⟩ := zn_inj e
    exact ⟨hK, lo, hL, H.2 rfl⟩
  · cases e
noncomputable def q_sw (K : Nat → Prop) (d : Nat) (x : Int) : List (Int × Nat) → Prop
  | [] => K d
  | (v, t) :: r => (x = v → K t) ∧ (x ≠ v → q_sw K d x r)
noncomputable def q_sw2 (K : Nat → Prop) (d : Nat) (x : Int) : Int → List Nat → Prop
  | _, [] => K d
  | v, t :: r => (x = v → K t) ∧ (x ≠ v → q_sw2 K d x (v + 1) r)
theorem q_sw_ok {K : Nat → Prop} {d : Nat} {x : Int} : ∀ l : List (Int × Nat), q_sw K d x l → K (z_lkr l d x)
  | [], H => H
  | (v, t) :: r, H => by
    unfold z_lkr
    by_cases hv : v = x
    · rw [if_pos hv]; exact H.1 hv.symm
    · rw [if_neg hv]; exact q_sw_ok r (H.2 (fun q => hv q.symm))
theorem q_sw2_ok {K : Nat → Prop} {d : Nat} {x : Int} : ∀ (l : List Nat) (v : Int), q_sw2 K d x v l → K (if x < v then d else (l[(x - v).toNat]?).getD d)
  | [], v, H => by
    have : (if x < v then d else (([] : List Nat)[(x - v).toNat]?).getD d) = d := by split <;> simp
    rw [this]
    exact H
  | t :: r, v, H => by
    by_cases hv : x = v
    · rw [if_neg (by omega), show (x - v).toNat = 0 by omega]
      exact H.1 hv
    · have h9 := q_sw2_ok r (v + 1) (H.2 hv)
      by_cases hx : x < v
      · rw [if_pos hx]
        rw [if_pos (by omega)] at h9
        exact h9
      · rw [if_neg hx, show (x - v).toNat = (x - (v + 1)).toNat + 1 by omega, List.getElem?_cons_succ]
        rw [if_neg (by omega)] at h9
        exact h9
noncomputable def qt_tsw : zTr := fun _ a _ _ _ lo st σ K => match st with
  | v :: r => (match z_sw[a]? with
    | some t => q_sw2 (fun k' => K k' lo r σ) t.2.2 (q_i v).toInt t.1 t.2.1
    | none => True)
  | _ => True
noncomputable def qt_lsw2 : zTr := fun _ a _ _ _ lo st σ K => match st with
  | v :: r => (match z_lk[a]? with
    | some t => q_sw (fun k' => K k' lo r σ) t.2 (q_i v).toInt t.1
    | none => True)
  | _ => True
theorem qs_tsw : zSo zo_tsw qt_tsw := by
  intro sx d a b c k l st h k' l' st' h' x9 y9 lo K hK hL e H
  unfold zo_tsw at e
  split at e
  case h_2 => cases e
  next x r =>
  unfold qt_tsw at H
  dsimp only at H
  cases ht : z_sw[a]? with
  | none => rw [ht] at e; cases e
  | some t =>
  rw [ht] at e H
  dsimp only at e H
  obtain ⟨rfl, rfl, rfl, rfl, rfl, rfl⟩ := zn_inj e
  exact ⟨hK, lo, hL, q_sw2_ok _ _ H⟩
theorem qs_lsw2 : zSo zo_lsw2 qt_lsw2 := by
  intro sx d a b c k l st h k' l' st' h' x9 y9 lo K hK hL e H
  unfold zo_lsw2 at e
  split at e
  case h_2 => cases e
  next x r =>
  unfold qt_lsw2 at H
  dsimp only at H
  cases ht : z_lk[a]? with
  | none => rw [ht] at e; cases e
  | some t =>
  rw [ht] at e H
  dsimp only at e H
  obtain ⟨rfl, rfl, rfl, rfl, rfl, rfl⟩ := zn_inj e
  exact ⟨hK, lo, hL, q_sw_ok _ H⟩
noncomputable def qt_get : zTr := fun _ a b _ k lo st σ K => match st with
  | v :: r => K (k + 1) lo (q_ld (q_kd a b) (σ.1 (q_r v) b) :: r) σ
  | _ => True
noncomputable def qt_put : zTr := fun _ a b c k lo st σ K => match st with
  | v :: w :: r => bif q_pk c (q_kd a b) then K (k + 1) lo r (q_w σ (q_r w) b v) else False
  | _ => True
theorem qs_get : zSo zo_get qt_get := by
  intro sx d a b c k l st h k' l' st' h' x9 y9 lo K hK hL e H
  unfold zo_get at e
  split at e
  case h_2 => cases e
  next i r =>
  split at e
  case h_2 => cases e
  next c' fs he =>
  by_cases hc : c' = a
  case neg => rw [if_neg hc] at e; cases e
  rw [if_pos hc] at e
  subst hc
  split at e
  case h_2 => cases e
  next v hv =>
  obtain ⟨rfl, rfl, rfl, rfl, rfl, rfl⟩ := zn_inj e
  refine ⟨hK, lo, hL, ?_⟩
  have H1 : K (k + 1) lo (q_ld (q_kd c' b) (zv h' i b) :: r) (za h') := H
  rw [zv_at he, show z_rd (.inr (c', fs)) b = fs[b]? from rfl, hv, Option.getD_some, hK.1 i c' fs b v he hv] at H1
  exact H1
theorem q_pk_ok {c : Int} {n : Nat} {v : Value} (h1 : q_pk c n = true) (h2 : z_fit c v = true) : q_ld n v = v := by
  unfold q_pk at h1
  rw [Bool.or_eq_true, Bool.and_eq_true, Bool.and_eq_true, Bool.or_eq_true, decide_eq_true_eq, decide_eq_true_eq, decide_eq_true_eq] at h1
  rcases h1 with ⟨h1, h3⟩ | ⟨h1, h3⟩
  · rw [Nat.eq_of_beq_eq_true h1]
    cases v with
    | int x => rfl
    | ref i => simp only [z_fit, decide_eq_true_eq] at h2; omega
    | null => simp only [z_fit, decide_eq_true_eq] at h2; omega
    | _ => simp [z_fit] at h2
  · rw [Nat.eq_of_beq_eq_true h1]
    rfl
theorem qs_put : zSo zo_put qt_put := by
  intro sx d a b c k l st h k' l' st' h' x9 y9 lo K hK hL e H
  unfold zo_put at e
  split at e
  case h_2 => cases e
  next v i r =>
  split at e
  case h_2 => cases e
  next c' fs he =>
  by_cases hc : c' = a ∧ b < fs.length ∧ z_fit c v = true
  case neg => rw [if_neg hc] at e; cases e
  rw [if_pos hc] at e
  obtain ⟨hc, hb, hf⟩ := hc
  subst hc
  obtain ⟨rfl, rfl, rfl, rfl, rfl, rfl⟩ := zn_inj e
  have H1 : bif q_pk c (q_kd c' b) then K (k + 1) lo st' (q_w (za h) i b v) else False := H
  cases hp : q_pk c (q_kd c' b) with
  | false => rw [hp] at H1; exact H1.elim
  | true =>
  rw [hp] at H1
  refine ⟨hK.obj he (q_pk_ok hp hf), lo, hL, ?_⟩
  rw [za_set he (z_rd_obj hb) rfl]
  exact H1
theorem z_inp {j : Int32} {n : Nat} (h : z_in j n = true) : j.toNatClampNeg < n := by
  unfold z_in at h
  rw [Bool.not_eq_true', Bool.or_eq_false_iff, decide_eq_false_iff_not, decide_eq_false_iff_not] at h
  omega
theorem zvl_at {h : zH} {c t n : Nat} {x : (Nat → Int32) ⊕ (Nat → Int64) ⊕ (Nat → UInt32) ⊕ (Nat → UInt64) ⊕ (Nat → Option Nat)} (he : h[c]? = some (.inl (t, (n, x)))) : zvl h c = n := by
  unfold zvl
  rw [he]
noncomputable def qt_iald : zTr := fun _ _ _ _ k lo st σ K => match st with
  | j :: w :: r => z_in (q_i j) (σ.2.1 (q_r w)) = true → K (k + 1) lo (.int (q_i (σ.1 (q_r w) (q_i j).toNatClampNeg)) :: r) σ
  | _ => True
noncomputable def qt_lald : zTr := fun _ _ _ _ k lo st σ K => match st with
  | j :: w :: r => z_in (q_i j) (σ.2.1 (q_r w)) = true → K (k + 1) lo (.long (q_l (σ.1 (q_r w) (q_i j).toNatClampNeg)) :: r) σ
  | _ => True
noncomputable def qt_aald : zTr := fun _ _ _ _ k lo st σ K => match st with
  | j :: w :: r => z_in (q_i j) (σ.2.1 (q_r w)) = true → K (k + 1) lo (.ref (q_r (σ.1 (q_r w) (q_i j).toNatClampNeg)) :: r) σ
  | _ => True
noncomputable def qt_iast : zTr := fun _ _ _ _ k lo st σ K => match st with
  | v :: j :: w :: r => z_in (q_i j) (σ.2.1 (q_r w)) = true → K (k + 1) lo r (q_w σ (q_r w) (q_i j).toNatClampNeg (.int (q_i v)))
  | _ => True
noncomputable def qt_bast : zTr := fun _ _ _ _ k lo st σ K => match st with
  | v :: j :: w :: r => z_in (q_i j) (σ.2.1 (q_r w)) = true → K (k + 1) lo r (q_w σ (q_r w) (q_i j).toNatClampNeg (.int (vp_nar .byte (q_i v))))
  | _ => True
noncomputable def qt_last : zTr := fun _ _ _ _ k lo st σ K => match st with
  | v :: j :: w :: r => z_in (q_i j) (σ.2.1 (q_r w)) = true → K (k + 1) lo r (q_w σ (q_r w) (q_i j).toNatClampNeg (.long (q_l v)))
  | _ => True
noncomputable def qt_alen : zTr := fun _ _ _ _ k lo st σ K => match st with
  | w :: r => K (k + 1) lo (.int (Int32.ofNat (σ.2.1 (q_r w))) :: r) σ
  | _ => True
theorem qs_iald : zSo zo_iald qt_iald := by
  intro sx d a b c k l st h k' l' st' h' x9 y9 lo K hK hL e H
  unfold zo_iald at e
  split at e
  case h_2 => cases e
  next j i r =>
  split at e
  case h_2 => cases e
  next n f he =>
  by_cases hz : z_in j n = true
  case neg => rw [if_neg hz] at e; cases e
  rw [if_pos hz] at e
  obtain ⟨rfl, rfl, rfl, rfl, rfl, rfl⟩ := zn_inj e
  refine ⟨hK, lo, hL, ?_⟩
  have H1 : z_in j (zvl h' i) = true → K (k + 1) lo (.int (q_i (zv h' i j.toNatClampNeg)) :: r) (za h') := H
  rw [zvl_at he, zv_at he, z_rd0, if_pos (z_inp hz)] at H1
  exact H1 hz
theorem qs_bald : zSo zo_bald qt_iald := by
  intro sx d a b c k l st h k' l' st' h' x9 y9 lo K hK hL e H
  unfold zo_bald at e
  split at e
  case h_2 => cases e
  next j i r =>
  split at e
  case h_2 => cases e
  next n f he =>
  by_cases hz : z_in j n = true
  case neg => rw [if_neg hz] at e; cases e
  rw [if_pos hz] at e
  obtain ⟨rfl, rfl, rfl, rfl, rfl, rfl⟩ := zn_inj e
  refine ⟨hK, lo, hL, ?_⟩
  have H1 : z_in j (zvl h' i) = true → K (k + 1) lo (.int (q_i (zv h' i j.toNatClampNeg)) :: r) (za h') := H
  rw [zvl_at he, zv_at he, z_rd1, if_pos (z_inp hz)] at H1
  exact H1 hz
theorem qs_lald : zSo zo_lald qt_lald := by
  intro sx d a b c k l st h k' l' st' h' x9 y9 lo K hK hL e H
  unfold zo_lald at e
  split at e
  case h_2 => cases e
  next j i r =>
  split at e
  case h_2 => cases e
  next n f he =>
  by_cases hz : z_in j n = true
  case neg => rw [if_neg hz] at e; cases e
  rw [if_pos hz] at e
  obtain ⟨rfl, rfl, rfl, rfl, rfl, rfl⟩ := zn_inj e
  refine ⟨hK, lo, hL, ?_⟩
  have H1 : z_in j (zvl h' i) = true → K (k + 1) lo (.long (q_l (zv h' i j.toNatClampNeg)) :: r) (za h') := H
  rw [zvl_at he, zv_at he, z_rd2, if_pos (z_inp hz)] at H1
  exact H1 hz
theorem qs_aald : zSo zo_aald qt_aald := by
  intro sx d a b c k l st h k' l' st' h' x9 y9 lo K hK hL e H
  unfold zo_aald at e
  split at e
  case h_2 => cases e
  next j i r =>
  split at e
  case h_2 => cases e
  next n f he =>
  by_cases hz : z_in j n = true
  case neg => rw [if_neg hz] at e; cases e
  rw [if_pos hz] at e
  obtain ⟨rfl, rfl, rfl, rfl, rfl, rfl⟩ := zn_inj e
  refine ⟨hK, lo, hL, ?_⟩
  have H1 : z_in j (zvl h' i) = true → K (k + 1) lo (.ref (q_r (zv h' i j.toNatClampNeg)) :: r) (za h') := H
  obtain ⟨r9, hr9⟩ := hK.2 i n f he _ (z_inp hz)
  rw [zvl_at he, zv_at he, z_rd3, if_pos (z_inp hz), hr9] at H1
  rw [hr9]
  exact H1 hz
theorem qs_iast : zSo zo_iast qt_iast := by
  intro sx d a b c k l st h k' l' st' h' x9 y9 lo K hK hL e H
  unfold zo_iast at e
  split at e
  case h_2 => cases e
  next v j i r =>
  split at e
  case h_2 => cases e
  next n f he =>
  by_cases hz : z_in j n = true
  case neg => rw [if_neg hz] at e; cases e
  rw [if_pos hz] at e
  obtain ⟨rfl, rfl, rfl, rfl, rfl, rfl⟩ := zn_inj e
  refine ⟨hK.arr (x := .inl f) (by decide), lo, hL, ?_⟩
  have H1 : z_in j (zvl h i) = true → K (k + 1) lo st' (q_w (za h) i j.toNatClampNeg (.int (v))) := H
  rw [zvl_at he] at H1
  rw [za_set he (z_rd_int (z_inp hz)) rfl]
  exact H1 hz
theorem qs_bast : zSo zo_bast qt_bast := by
  intro sx d a b c k l st h k' l' st' h' x9 y9 lo K hK hL e H
  unfold zo_bast at e
  split at e
  case h_2 => cases e
  next v j i r =>
  split at e
  case h_2 => cases e
  next n f he =>
  by_cases hz : z_in j n = true
  case neg => rw [if_neg hz] at e; cases e
  rw [if_pos hz] at e
  obtain ⟨rfl, rfl, rfl, rfl, rfl, rfl⟩ := zn_inj e
  refine ⟨hK.arr (x := .inl f) (by decide), lo, hL, ?_⟩
  have H1 : z_in j (zvl h i) = true → K (k + 1) lo st' (q_w (za h) i j.toNatClampNeg (.int (vp_nar .byte v))) := H
  rw [zvl_at he] at H1
  rw [za_set he (z_rd_byte (z_inp hz)) rfl]
  exact H1 hz
theorem qs_last : zSo zo_last qt_last := by
  intro sx d a b c k l st h k' l' st' h' x9 y9 lo K hK hL e H
  unfold zo_last at e
  split at e
  case h_2 => cases e
  next v j i r =>
  split at e
  case h_2 => cases e
  next n f he =>
  by_cases hz : z_in j n = true
  case neg => rw [if_neg hz] at e; cases e
  rw [if_pos hz] at e
  obtain ⟨rfl, rfl, rfl, rfl, rfl, rfl⟩ := zn_inj e
  refine ⟨hK.arr (x := .inr (.inl f)) (by decide), lo, hL, ?_⟩
  have H1 : z_in j (zvl h i) = true → K (k + 1) lo st' (q_w (za h) i j.toNatClampNeg (.long v)) := H
  rw [zvl_at he] at H1
  rw [za_set he (z_rd_long (z_inp hz)) rfl]
  exact H1 hz
theorem qs_alen : zSo zo_alen qt_alen := by
  intro sx d a b c k l st h k' l' st' h' x9 y9 lo K hK hL e H
  unfold zo_alen at e
  split at e
  case h_2 => cases e
  next i r =>
  split at e
  case h_2 => cases e
  next t n x he =>
  by_cases hz : t < 4
  case neg => rw [if_neg hz] at e; cases e
  rw [if_pos hz] at e
  obtain ⟨rfl, rfl, rfl, rfl, rfl, rfl⟩ := zn_inj e
  refine ⟨hK, lo, hL, ?_⟩
  have H1 : K (k + 1) lo (.int (Int32.ofNat (zvl h' i)) :: r) (za h') := H
  rw [zvl_at he] at H1
  exact H1
theorem q_s_at {i : Nat} {q : String × Nat × String × List Int32} (h : z_strs[i - zB]? = some q) : q_s i = q.2.2.2 := congrArg q_so h
noncomputable def qt_newa : zTr := fun _ a _ _ k lo st σ K => match st with
  | n :: r => ¬ q_i n < 0 → K (k + 1) lo (.ref σ.2.2 :: r) (q_nw σ (fun j => (z_rd (z_new a (q_i n).toNatClampNeg) j).getD .null) (q_i n).toNatClampNeg)
  | _ => True
noncomputable def qt_new : zTr := fun _ a _ _ k lo st σ K => bif Nat.beq a 2 then K (k + 1) lo (.ref σ.2.2 :: st) (q_nw σ (fun j => ((z_df.getD a [])[j]?).getD .null) 0) else False
noncomputable def qt_clone : zTr := fun _ _ _ _ k lo st σ K => match st with
  | w :: r => K (k + 1) lo (.ref σ.2.2 :: r) (q_nw σ (σ.1 (q_r w)) (σ.2.1 (q_r w)))
  | _ => True
noncomputable def qt_cast : zTr := fun _ _ _ _ k lo st σ K => match st with
  | w :: r => K (k + 1) lo (.ref (q_r w) :: r) σ
  | _ => True
noncomputable def qt_acopy : zTr := fun _ _ _ _ k lo st σ K => match st with
  | n :: dp :: w1 :: sp :: w0 :: r => K (k + 1) lo r (q_cp σ (q_r w0) (q_r w1) (q_i sp).toNatClampNeg (q_i dp).toNatClampNeg (q_i n).toNatClampNeg)
  | _ => True
noncomputable def qt_slength : zTr := fun _ _ _ _ k lo st σ K => match st with
  | w :: r => K (k + 1) lo (.int (Int32.ofNat (q_s (q_r w)).length) :: r) σ
  | _ => True
noncomputable def qt_scharAt : zTr := fun _ _ _ _ k lo st σ K => match st with
  | j :: w :: r => z_in (q_i j) (q_s (q_r w)).length = true → K (k + 1) lo (.int (((q_s (q_r w)).getD (q_i j).toNatClampNeg 0) &&& 255) :: r) σ
  | _ => True
noncomputable def qt_oinit : zTr := qt_pop
noncomputable def qt_min : zTr := q_p2 (fun x y => .int (if q_i y < q_i x then q_i y else q_i x))
noncomputable def qt_max : zTr := q_p2 (fun x y => .int (if q_i x < q_i y then q_i y else q_i x))
noncomputable def qt_sald : zTr := fun sx _ _ _ k lo st σ K => match st with
  | j :: _ :: r => z_in (q_i j) sx.1 = true → K (k + 1) lo (.int (sx.2 (q_i j).toNatClampNeg) :: r) σ
  | _ => True
noncomputable def qt_slen : zTr := fun sx _ _ _ k lo st σ K => match st with
  | _ :: r => K (k + 1) lo (.int (Int32.ofNat sx.1) :: r) σ
  | _ => True
theorem qs_oinit : zSo zo_oinit qt_oinit := by
  intro sx d a b c k l st h k' l' st' h' x9 y9 lo K hK hL e H
  unfold zo_oinit at e
  repeat' split at e
  all_goals first
    | cases e; done
    | obtain ⟨rfl, rfl, rfl, rfl, rfl, rfl⟩ := zn_inj e
      exact ⟨hK, lo, hL, H⟩
theorem qs_slen : zSo zo_slen qt_slen := by
  intro sx d a b c k l st h k' l' st' h' x9 y9 lo K hK hL e H
  unfold zo_slen at e
  repeat' split at e
  all_goals first
    | cases e; done
    | obtain ⟨rfl, rfl, rfl, rfl, rfl, rfl⟩ := zn_inj e
      exact ⟨hK, lo, hL, H⟩
theorem qs_min : zSo zo_min qt_min := by
  intro sx d a b c k l st h k' l' st' h' x9 y9 lo K hK hL e H
  unfold zo_min at e
  split at e
  case h_2 => cases e
  next y x r =>
  by_cases hz : 6 ≤ d ∧ z_cat r ≤ 8
  case neg => rw [if_neg hz] at e; cases e
  rw [if_pos hz] at e
  obtain ⟨rfl, rfl, rfl, rfl, rfl, rfl⟩ := zn_inj e
  exact ⟨hK, lo, hL, H⟩
theorem qs_max : zSo zo_max qt_max := by
  intro sx d a b c k l st h k' l' st' h' x9 y9 lo K hK hL e H
  unfold zo_max at e
  split at e
  case h_2 => cases e
  next y x r =>
  by_cases hz : 6 ≤ d ∧ z_cat r ≤ 8
  case neg => rw [if_neg hz] at e; cases e
  rw [if_pos hz] at e
  obtain ⟨rfl, rfl, rfl, rfl, rfl, rfl⟩ := zn_inj e
  exact ⟨hK, lo, hL, H⟩
theorem qs_sald : zSo zo_sald qt_sald := by
  intro sx d a b c k l st h k' l' st' h' x9 y9 lo K hK hL e H
  unfold zo_sald at e
  split at e
  case h_2 => cases e
  next j i r =>
  by_cases hz : i = zS ∧ z_in j sx.1 = true
  case neg => rw [if_neg hz] at e; cases e
  rw [if_pos hz] at e
  obtain ⟨rfl, rfl, rfl, rfl, rfl, rfl⟩ := zn_inj e
  exact ⟨hK, lo, hL, H hz.2⟩
theorem qs_cast : zSo zo_cast qt_cast := by
  intro sx d a b c k l st h k' l' st' h' x9 y9 lo K hK hL e H
  unfold zo_cast at e
  repeat' split at e
  all_goals first
    | cases e; done
    | obtain ⟨rfl, rfl, rfl, rfl, rfl, rfl⟩ := zn_inj e
      exact ⟨hK, lo, hL, H⟩
theorem qs_newa : zSo zo_newa qt_newa := by
  intro sx d a b c k l st h k' l' st' h' x9 y9 lo K hK hL e H
  unfold zo_newa at e
  split at e
  case h_2 => cases e
  next n r =>
  by_cases hz : ¬ n < 0 ∧ n.toNatClampNeg ≤ 65536 ∧ h.length < zB ∧ a < 3
  case neg => rw [if_neg hz] at e; cases e
  rw [if_pos hz] at e
  simp only [Option.some.injEq, Prod.mk.injEq] at e
  obtain ⟨rfl, rfl, rfl, rfl, -, -⟩ := e
  have hne : ∀ (m : Nat) (f : Nat → Option Nat), z_new a n.toNatClampNeg ≠ .inl (3, (m, .inr (.inr (.inr (.inr f))))) := by
    intro m f q
    unfold z_new at q
    split at q <;> simp at q
  have hno : ∀ (c : Nat) (fs : List Value) (b : Nat) (v : Value), z_new a n.toNatClampNeg = .inr (c, fs) → fs[b]? = some v → q_ld (q_kd c b) v = v := by
    intro c fs b v q
    unfold z_new at q
    split at q <;> simp at q
  refine ⟨hK.push hno hne, lo, hL, ?_⟩
  rw [za_push (f := fun j => (z_rd (z_new a n.toNatClampNeg) j).getD .null) (n := n.toNatClampNeg) (fun j => rfl) (by unfold z_new; split <;> rfl)]
  exact H hz.1
theorem qs_new : zSo zo_new qt_new := by
  intro sx d a b c k l st h k' l' st' h' x9 y9 lo K hK hL e H
  unfold zo_new at e
  by_cases hz : h.length < zB
  case neg => rw [if_neg hz] at e; cases e
  rw [if_pos hz] at e
  split at e
  case h_2 => cases e
  next q hq =>
  simp only [Option.some.injEq, Prod.mk.injEq] at e
  obtain ⟨rfl, rfl, rfl, rfl, -, -⟩ := e
  unfold qt_new at H
  cases ha : Nat.beq a 2 with
  | false => rw [ha] at H; exact H.elim
  | true =>
  rw [ha] at H
  have ha2 := Nat.eq_of_beq_eq_true ha
  subst ha2
  refine ⟨hK.push (fun c fs b v q hv => ?_) (fun m f q => by cases q), lo, hL, ?_⟩
  · cases q
    match b, hv with
    | 0, hv => cases hv; rfl
    | 1, hv => cases hv; rfl
    | 2, hv => cases hv; rfl
    | 3, hv => cases hv; rfl
    | 4, hv => cases hv; rfl
    | 5, hv => cases hv; rfl
    | b + 6, hv => simp [z_df] at hv
  · rw [za_push (f := fun j => ((z_df.getD 2 [])[j]?).getD .null) (n := 0) (fun j => rfl) rfl]
    exact H
theorem qs_clone : zSo zo_clone qt_clone := by
  intro sx d a b c k l st h k' l' st' h' x9 y9 lo K hK hL e H
  unfold zo_clone at e
  split at e
  case h_2 => cases e
  next i r =>
  split at e
  case h_2 => cases e
  next n f he =>
  by_cases hz : 6 ≤ d ∧ z_cat r ≤ 8 ∧ h.length < zB
  case neg => rw [if_neg hz] at e; cases e
  rw [if_pos hz] at e
  simp only [Option.some.injEq, Prod.mk.injEq] at e
  obtain ⟨rfl, rfl, rfl, rfl, -, -⟩ := e
  refine ⟨hK.push (fun c fs b v q => by cases q) (fun m f q => by cases q), lo, hL, ?_⟩
  rw [za_push (f := zv h i) (n := zvl h i) (fun j => (zv_at he).symm) (zvl_at he).symm]
  exact H
theorem qs_acopy : zSo zo_acopy qt_acopy := by
  intro sx d a b c k l st h k' l' st' h' x9 y9 lo K hK hL e H
  unfold zo_acopy at e
  split at e
  case h_2 => cases e
  next n dp i1 sp i0 r =>
  split at e
  case h_2 => cases e
  next n0 f n1 g h0 h1 =>
  by_cases hz : 6 ≤ d ∧ z_cat r ≤ 8 ∧ ¬ sp < 0 ∧ ¬ dp < 0 ∧ ¬ n < 0 ∧ sp.toNatClampNeg + n.toNatClampNeg ≤ n0 ∧ dp.toNatClampNeg + n.toNatClampNeg ≤ n1
  case neg => rw [if_neg hz] at e; cases e
  rw [if_pos hz] at e
  obtain ⟨rfl, rfl, rfl, rfl, rfl, rfl⟩ := zn_inj e
  refine ⟨hK.arr (x := .inl f) (by decide), lo, hL, ?_⟩
  have hl := (List.getElem?_eq_some_iff.mp h1).1
  have e1 : za (h.set i1 (.inl (0, (n1, .inl (va_cpy f g sp.toNatClampNeg dp.toNatClampNeg n.toNatClampNeg))))) = q_cp (za h) i0 i1 sp.toNatClampNeg dp.toNatClampNeg n.toNatClampNeg := by
    refine Prod.ext ?_ (Prod.ext ?_ ?_)
    · funext c k'
      show zv (h.set i1 _) c k' = if c = i1 ∧ dp.toNatClampNeg ≤ k' ∧ k' < dp.toNatClampNeg + n.toNatClampNeg then zv h i0 (sp.toNatClampNeg + (k' - dp.toNatClampNeg)) else zv h c k'
      by_cases hc : c = i1
      · subst hc
        rw [zv_at (List.getElem?_set_self hl), z_rd0]
        unfold va_cpy
        by_cases hk : dp.toNatClampNeg ≤ k' ∧ k' < dp.toNatClampNeg + n.toNatClampNeg
        · rw [if_pos (by omega), if_pos hk, if_pos ⟨rfl, hk⟩, zv_at h0, z_rd0, if_pos (by omega)]
        · have hk2 : ¬ (c = c ∧ dp.toNatClampNeg ≤ k' ∧ k' < dp.toNatClampNeg + n.toNatClampNeg) := fun q => hk q.2
          rw [if_neg hk, if_neg hk2, zv_at h1, z_rd0]
      · rw [if_neg (fun q => hc q.1)]
        unfold zv
        rw [List.getElem?_set_ne (fun q => hc q.symm)]
    · exact zvl_set h1 rfl
    · exact List.length_set
  rw [e1]
  exact H
theorem qs_slength : zSo zo_slength qt_slength := by
  intro sx d a b c k l st h k' l' st' h' x9 y9 lo K hK hL e H
  unfold zo_slength at e
  split at e
  case h_2 => cases e
  next i r =>
  split at e
  case isFalse => cases e
  split at e
  case h_2 => cases e
  next q hq =>
  obtain ⟨rfl, rfl, rfl, rfl, rfl, rfl⟩ := zn_inj e
  refine ⟨hK, lo, hL, ?_⟩
  unfold qt_slength at H
  dsimp only at H
  rw [show q_r (.ref i) = i from rfl, q_s_at hq] at H
  exact H
theorem qs_scharAt : zSo zo_scharAt qt_scharAt := by
  intro sx d a b c k l st h k' l' st' h' x9 y9 lo K hK hL e H
  unfold zo_scharAt at e
  split at e
  case h_2 => cases e
  next j i r =>
  split at e
  case isFalse => cases e
  split at e
  case h_2 => cases e
  next q hq =>
  by_cases hz : z_in j q.2.2.2.length = true
  case neg => rw [if_neg hz] at e; cases e
  rw [if_pos hz] at e
  obtain ⟨rfl, rfl, rfl, rfl, rfl, rfl⟩ := zn_inj e
  refine ⟨hK, lo, hL, ?_⟩
  unfold qt_scharAt at H
  dsimp only at H
  rw [show q_r (.ref i) = i from rfl, show q_i (.int j) = j from rfl, q_s_at hq] at H
  exact H hz
noncomputable def qts : List zTr := [qt_const, qt_iload, qt_aload, qt_lload, qt_istore, qt_astore, qt_lstore, qt_iinc, q_p2 (fun x y => .int ((fun x y : Int32 => x + y) (q_i x) (q_i y))), q_p2 (fun x y => .int ((fun x y : Int32 => x - y) (q_i x) (q_i y))), q_p2 (fun x y => .int ((fun x y : Int32 => x * y) (q_i x) (q_i y))), q_p2 (fun x y => .int ((fun x y : Int32 => x / y) (q_i x) (q_i y))), q_p2 (fun x y => .int ((fun x y : Int32 => x - x / y * y) (q_i x) (q_i y))), q_p2 (fun x y => .int ((fun x y : Int32 => x <<< (y &&& 31)) (q_i x) (q_i y))), q_p2 (fun x y => .int ((fun x y : Int32 => x >>> (y &&& 31)) (q_i x) (q_i y))), q_p2 (fun x y => .int ((fun x y : Int32 => (x.toUInt32 >>> (y.toUInt32 &&& Int32.toUInt32 31)).toInt32) (q_i x) (q_i y))), q_p2 (fun x y => .int ((fun x y : Int32 => x &&& y) (q_i x) (q_i y))), q_p2 (fun x y => .int ((fun x y : Int32 => x ||| y) (q_i x) (q_i y))), q_p2 (fun x y => .int ((fun x y : Int32 => x ^^^ y) (q_i x) (q_i y))), q_p1 (fun x => .long (q_i x).toInt64), q_p1 (fun x => .int (q_l x).toInt32), q_p1 (fun x => .int (q_i x).toInt8.toInt32), q_p2 (fun x y => .long ((fun x y : Int64 => x + y) (q_l x) (q_l y))), q_p2 (fun x y => .long ((fun x y : Int64 => x * y) (q_l x) (q_l y))), q_p2 (fun x y => .long ((fun x y : Int64 => x / y) (q_l x) (q_l y))), qt_lconst, q_p2 (fun x y => .int (lg_cmp (q_l x) (q_l y))), qt_dup, qt_dup2, qt_pop, qt_goto, qt_if, qt_icmp, qt_ifnn, qt_lald, qt_tsw, qt_lsw2, qt_get, qt_put, qt_iald, qt_iast, qt_iald, qt_bast, qt_last, qt_aald, qt_no, qt_alen, qt_newa, qt_no, qt_new, qt_no, qt_no, qt_no, qt_no, qt_no, qt_no, qt_no, qt_oinit, qt_ldcs, qt_slength, qt_scharAt, qt_acopy, qt_no, qt_null, qt_no, qt_sald, qt_slen, qt_min, qt_max, qt_no, qt_clone, qt_cast]
theorem qs_all : ∀ o, zSo (z_ops.getD o z_no) (qts.getD o qt_no)
  | 0 => qs_const
  | 1 => qs_iload
  | 2 => qs_aload
  | 3 => qs_lload
  | 4 => qs_istore
  | 5 => qs_astore
  | 6 => qs_lstore
  | 7 => qs_iinc
  | 8 => qs_iadd
  | 9 => qs_isub
  | 10 => qs_imul
  | 11 => qs_idiv
  | 12 => qs_irem
  | 13 => qs_ishl
  | 14 => qs_ishr
  | 15 => qs_iushr
  | 16 => qs_iand
  | 17 => qs_ior
  | 18 => qs_ixor
  | 19 => qs_i2l
  | 20 => qs_l2i
  | 21 => qs_i2b
  | 22 => qs_ladd
  | 23 => qs_lmul
  | 24 => qs_ldiv
  | 25 => qs_lconst
  | 26 => qs_lcmp
  | 27 => qs_dup
  | 28 => qs_dup2
  | 29 => qs_pop
  | 30 => qs_goto
  | 31 => qs_if
  | 32 => qs_icmp
  | 33 => qs_ifnn
  | 34 => qs_lald
  | 35 => qs_tsw
  | 36 => qs_lsw2
  | 37 => qs_get
  | 38 => qs_put
  | 39 => qs_iald
  | 40 => qs_iast
  | 41 => qs_bald
  | 42 => qs_bast
  | 43 => qs_last
  | 44 => qs_aald
  | 45 => qs_no
  | 46 => qs_alen
  | 47 => qs_newa
  | 48 => qs_no
  | 49 => qs_new
  | 50 => qs_no
  | 51 => qs_no
  | 52 => qs_no
  | 53 => qs_no
  | 54 => qs_no
  | 55 => qs_no
  | 56 => qs_no
  | 57 => qs_oinit
  | 58 => qs_ldcs
  | 59 => qs_slength
  | 60 => qs_scharAt
  | 61 => qs_acopy
  | 62 => qs_no
  | 63 => qs_null
  | 64 => qs_no
  | 65 => qs_sald
  | 66 => qs_slen
  | 67 => qs_min
  | 68 => qs_max
  | 69 => qs_no
  | 70 => qs_clone
  | 71 => qs_cast
  | n + 72 => qs_no
/-! a run's end, calls, and the step as a whole -/
noncomputable def q_fs : List (Nat × Nat × zPp) → Nat → Option (Nat × zPp)
  | [], _ => none
  | q :: r, j => bif Nat.beq q.1 j then some q.2 else q_fs r j
noncomputable def q_c1 : List Value → Bool
  | [] => true
  | v :: r => Nat.beq v.category 1 && q_c1 r
noncomputable def q_hd (st : List Value) : Value := match st with
  | v :: _ => v
  | [] => .null
noncomputable def q_cl (sps : List (Nat × Nat × zPp)) (hs : List zHd) (Ψ : zO → zSg → Prop) (go : zKo) (j k : Nat) (lo : zLf) (as rest : List Value) (σ : zSg) (ca : Bool) : Prop := match q_fs sps j with
  | none => False
  | some p => bif Nat.beq as.length p.1 && q_c1 as then (∀ o σ', p.2 as σ o σ' → (match o with
    | .inl v => go (k + 1) lo (v.toList ++ rest) σ'
    | .inr E => bif ca then (match hs.find? (fun q => q.2.2.2.2.1 == E) with
      | some q => go q.2.2.2.2.2.1 lo [] σ'
      | none => Ψ (.inr E) σ') else True)) else False
noncomputable def q_sp (o : Nat) : Nat := match o with
  | 50 => 1 | 51 => 2 | 52 => 3 | 53 => 4 | 62 => 5 | 54 => 6 | 55 => 7 | 72 => 7 | 56 => 8 | 73 => 8
  | _ => 0
noncomputable def zstp (sx : zX) (sps : List (Nat × Nat × zPp)) (hs : List zHd) (cs : List zI) (Ψ : zO → zSg → Prop) (go : zKo) (k : Nat) (lo : zLf) (st : List Value) (σ : zSg) : Prop := match cs[k]? with
  | none => True
  | some (o, a, b, c) => (match q_sp o with
    | 0 => (qts.getD o qt_no) sx a b c k lo st σ go
    | 1 => Ψ (.inl (some (.int (q_i (q_hd st))))) σ
    | 2 => Ψ (.inl (some (.long (q_l (q_hd st))))) σ
    | 3 => Ψ (.inl (some (.ref (q_r (q_hd st))))) σ
    | 4 => Ψ (.inl none) σ
    | 5 => Ψ (.inr a) σ
    | 6 => (match st.drop b with
      | w :: rest => q_cl sps hs Ψ go a k lo (.ref (q_r w) :: (st.take b).reverse) rest σ true
      | [] => True)
    | 7 => q_cl sps hs Ψ go a k lo (st.take b).reverse (st.drop b) σ false
    | _ => (match st.drop b with
      | w :: rest => q_cl sps hs Ψ go a k lo (.ref (q_r w) :: (st.take b).reverse) rest σ false
      | [] => True))
/-- every run of at most that much fuel from here ends with Ψ -/
noncomputable def zRu (sx : zX) (m0 j k : Nat) (lo : zLf) (st : List Value) (σ : zSg) (Ψ : zO → zSg → Prop) : Prop := ∀ m, m ≤ m0 → ∀ (d : Nat) (l : zL) (h : zH) (r : zRes), zKh h → zLr l lo → za h = σ → z_run sx m d j k l st h = some r → zKh r.2.1 ∧ Ψ r.1 (za r.2.1)
noncomputable def zMt (sx : zX) (m0 j n : Nat) (P : zPp) : Prop := ∀ m, m ≤ m0 → ∀ (d : Nat) (h : zH) (as : List Value) (r : zRes), zKh h → as.length = n → q_c1 as = true → z_run sx m d j 0 (lv_args 0 as) [] h = some r → zKh r.2.1 ∧ P as (za h) r.1 (za r.2.1)
theorem q_c1_ok : ∀ {as : List Value}, q_c1 as = true → ∀ v ∈ as, v.category = 1
  | v :: vs, h, w, hw => by
    unfold q_c1 at h
    rw [Bool.and_eq_true] at h
    rcases List.mem_cons.mp hw with e | e
    · rw [e]; exact Nat.eq_of_beq_eq_true h.1
    · exact q_c1_ok h.2 w e
theorem q_fs_ok {j : Nat} {p : Nat × zPp} : ∀ {sps : List (Nat × Nat × zPp)}, q_fs sps j = some p → (j, p) ∈ sps
  | q :: r, h => by
    unfold q_fs at h
    cases hb : Nat.beq q.1 j with
    | true =>
      rw [hb] at h
      have h1 : q.2 = p := by simpa using h
      have h2 := Nat.eq_of_beq_eq_true hb
      rw [← h1, ← h2]
      exact List.mem_cons_self
    | false =>
      rw [hb] at h
      exact List.mem_cons_of_mem _ (q_fs_ok h)
section ZFL
variable {sx : zX} {sps : List (Nat × Nat × zPp)} {hs : List zHd} {cs : List zI} {M : zMi} {Ψ : zO → zSg → Prop} {go : zKo} {m0 j k : Nat} {lo : zLf} {st : List Value} {σ : zSg}
theorem q_sp_no {o : Nat} (h : q_sp o ≠ 0) : z_ops.getD o z_no = z_no := by
  unfold q_sp at h
  split at h
  all_goals first
    | rfl
    | exact absurd rfl h
/-- a call, by what its method ends with -/
theorem q_cl_ok {m d a : Nat} {b : Bool} {as rest : List Value} {h : zH} {l : zL} {r : zRes} {i : zI} (hm : m ≤ m0) (hsp : ∀ q ∈ sps, zMt sx m0 q.1 q.2.1 q.2.2) (hgo : ∀ k' lo' st' σ', go k' lo' st' σ' → zRu sx m0 j k' lo' st' σ' Ψ) (hK : zKh h) (hL : zLr l lo) (hb : i.1 = 54 → b = true) (H : q_cl sps hs Ψ go a k lo as rest (za h) b)
    (hr : (match z_run sx m (d - 1) a 0 (lv_args 0 as) [] h with
            | some (.inl v, h', x, y) => (z_run sx m d j (k + 1) l (v.toList ++ rest) h').map (z_add x y)
            | some (.inr E, h', x, y) => if i.1 = 54 then (match hs.find? (fun q => q.2.2.2.2.1 == E) with
                | some q => (z_run sx m d j q.2.2.2.2.2.1 (z_drop l q.2.2.2.2.2.2) [] h').map (z_add x y)
                | none => if hs = [] then some (.inr E, h', x, y) else none) else none
            | none => none) = some r) : zKh r.2.1 ∧ Ψ r.1 (za r.2.1) := by
  unfold q_cl at H
  cases hp : q_fs sps a with
  | none => rw [hp] at H; exact H.elim
  | some p =>
  rw [hp] at H
  dsimp only at H
  cases hc : (Nat.beq as.length p.1 && q_c1 as) with
  | false => rw [hc] at H; exact H.elim
  | true =>
  rw [hc] at H
  rw [Bool.and_eq_true] at hc
  have H : ∀ o σ', p.2 as (za h) o σ' → _ := H
  have hS := hsp _ (q_fs_ok hp)
  cases hin : z_run sx m (d - 1) a 0 (lv_args 0 as) [] h with
  | none => rw [hin] at hr; cases hr
  | some w =>
  obtain ⟨oi, h1, x1, y1⟩ := w
  rw [hin] at hr
  obtain ⟨K1, P1⟩ := hS m hm (d - 1) h as _ hK (Nat.eq_of_beq_eq_true hc.1) hc.2 hin
  dsimp only at K1 P1
  have H2 := H oi (za h1) P1
  cases oi with
  | inl v =>
    dsimp only at hr H2
    obtain ⟨r1, r2, r3, r4⟩ := r
    obtain ⟨a9, b9, e1, e2, e3⟩ := z_mapadd hr
    exact hgo _ _ _ _ H2 m hm d l h1 (r1, r2, a9, b9) K1 hL rfl e1
  | inr E =>
    dsimp only at hr H2
    by_cases hi : i.1 = 54
    case neg => rw [if_neg hi] at hr; cases hr
    rw [if_pos hi] at hr
    rw [hb hi] at H2
    cases hfd : hs.find? (fun q => q.2.2.2.2.1 == E) with
    | some q =>
      rw [hfd] at hr H2
      dsimp only at hr H2
      obtain ⟨r1, r2, r3, r4⟩ := r
      obtain ⟨a9, b9, e1, e2, e3⟩ := z_mapadd hr
      exact hgo _ _ _ _ H2 m hm d _ h1 (r1, r2, a9, b9) K1 hL.drop rfl e1
    | none =>
      rw [hfd] at hr H2
      dsimp only at hr H2
      by_cases he : hs = []
      case neg => rw [if_neg he] at hr; cases hr
      rw [if_pos he] at hr
      cases hr
      exact ⟨K1, H2⟩
theorem zstp_ok (J : zJ3 j M cs hs) (hsp : ∀ q ∈ sps, zMt sx m0 q.1 q.2.1 q.2.2) (H : zstp sx sps hs cs Ψ go k lo st σ) (hgo : ∀ k' lo' st' σ', go k' lo' st' σ' → zRu sx m0 j k' lo' st' σ' Ψ) : zRu sx (m0 + 1) j k lo st σ Ψ := by
  intro m hm d l h r hK hL hA hr
  subst hA
  match m with
  | 0 => rw [z_run] at hr; cases hr
  | m + 1 =>
  have hm : m ≤ m0 := by omega
  rw [z_run, J.1, J.2.1, J.2.2] at hr
  dsimp only at hr
  unfold zstp at H
  cases hk : cs[k]? with
  | none => rw [hk] at hr; cases hr
  | some i =>
  rw [hk] at hr H
  obtain ⟨o, a, b, c⟩ := i
  dsimp only at hr H
  cases hf : z_fin M (o, a, b, c) d st with
  | some w =>
    obtain ⟨o', x, y⟩ := w
    rw [hf] at hr
    dsimp only at hr
    cases hr
    refine ⟨hK, ?_⟩
    dsimp only
    unfold z_fin at hf
    dsimp only at hf
    split at hf
    · split at hf
      · split at hf
        · cases hf; exact H
        · cases hf
      · cases hf
    · cases hf; exact H
    · cases hf; exact H
    · cases hf; exact H
    · split at hf
      · cases hf; exact H
      · cases hf
    · cases hf
  | none =>
  rw [hf] at hr
  dsimp only at hr
  cases hc : z_cal (o, a, b, c) d st h with
  | some w =>
    obtain ⟨j', as, rest⟩ := w
    rw [hc] at hr
    dsimp only at hr
    obtain ⟨h0, -⟩ := z_cal_in hc
    unfold z_cal0 at h0
    by_cases hd : d = 0 ∨ st.length < b
    · rw [if_pos hd] at h0; cases h0
    rw [if_neg hd] at h0
    dsimp only at h0
    split at h0
    · split at h0
      · next r9 rest9 hdr =>
        have H : (match st.drop b with | w :: rest => q_cl sps hs Ψ go a k lo (.ref (q_r w) :: (st.take b).reverse) rest (za h) true | [] => True) := H
        rw [hdr] at H
        dsimp only at H
        split at h0
        · split at h0
          · cases h0
            exact q_cl_ok (i := (54, a, b, c)) hm hsp hgo hK hL (fun _ => rfl) H hr
          · cases h0
        · cases h0
      · cases h0
    · split at h0
      · cases h0
        exact q_cl_ok (i := (55, a, b, c)) hm hsp hgo hK hL (fun q => absurd q (by decide : (55 : Nat) ≠ 54)) H hr
      · cases h0
    · split at h0
      · cases h0
        exact q_cl_ok (i := (72, a, b, c)) hm hsp hgo hK hL (fun q => absurd q (by decide : (72 : Nat) ≠ 54)) H hr
      · cases h0
    · split at h0
      · next r9 rest9 hdr =>
        have H : (match st.drop b with | w :: rest => q_cl sps hs Ψ go a k lo (.ref (q_r w) :: (st.take b).reverse) rest (za h) false | [] => True) := H
        rw [hdr] at H
        dsimp only at H
        split at h0
        · cases h0
          exact q_cl_ok (i := (56, a, b, c)) hm hsp hgo hK hL (fun q => absurd q (by decide : (56 : Nat) ≠ 54)) H hr
        · cases h0
      · cases h0
    · split at h0
      · next r9 rest9 hdr =>
        have H : (match st.drop b with | w :: rest => q_cl sps hs Ψ go a k lo (.ref (q_r w) :: (st.take b).reverse) rest (za h) false | [] => True) := H
        rw [hdr] at H
        dsimp only at H
        split at h0
        · cases h0
          exact q_cl_ok (i := (73, a, b, c)) hm hsp hgo hK hL (fun q => absurd q (by decide : (73 : Nat) ≠ 54)) H hr
        · cases h0
      · cases h0
    · cases h0
  | none =>
  rw [hc] at hr
  dsimp only at hr
  cases ho : (z_ops.getD o z_no) sx d a b c k l st h with
  | none => rw [ho] at hr; cases hr
  | some w =>
  obtain ⟨k', l', st', h', x, y⟩ := w
  rw [ho] at hr
  dsimp only at hr
  obtain ⟨r1, r2, r3, r4⟩ := r
  obtain ⟨a9, b9, e1, e2, e3⟩ := z_mapadd hr
  cases hs0 : q_sp o with
  | succ n =>
    rw [q_sp_no (by rw [hs0]; exact Nat.succ_ne_zero n)] at ho
    cases ho
  | zero =>
  rw [hs0] at H
  obtain ⟨K1, lo', hL', H'⟩ := qs_all o sx d a b c k l st h k' l' st' h' x y lo go hK hL ho H
  exact hgo _ _ _ _ H' m hm d l' h' (r1, r2, a9, b9) K1 hL' rfl e1
end ZFL
/-! CUT POINTS -/
abbrev zCp : Type := List (Nat × (zLf → List Value → zSg → Prop))
noncomputable def q_ct : zCp → Nat → Option (zLf → List Value → zSg → Prop)
  | [], _ => none
  | q :: r, k => bif Nat.beq q.1 k then some q.2 else q_ct r k
noncomputable def zwp (sx : zX) (sps : List (Nat × Nat × zPp)) (hs : List zHd) (cs : List zI) (Ψ : zO → zSg → Prop) (ct : zCp) : Nat → zKo
  | 0 => fun _ _ _ _ => False
  | n + 1 => zstp sx sps hs cs Ψ (fun k lo st σ => match q_ct ct k with
    | some I => I lo st σ
    | none => zwp sx sps hs cs Ψ ct n k lo st σ)
theorem q_ct_ok {k : Nat} {I : zLf → List Value → zSg → Prop} : ∀ {ct : zCp}, q_ct ct k = some I → (k, I) ∈ ct
  | q :: r, h => by
    unfold q_ct at h
    cases hb : Nat.beq q.1 k with
    | true =>
      rw [hb] at h
      have h1 : q.2 = I := by simpa using h
      have h2 := Nat.eq_of_beq_eq_true hb
      rw [← h1, ← h2]
      exact List.mem_cons_self
    | false =>
      rw [hb] at h
      exact List.mem_cons_of_mem _ (q_ct_ok h)
theorem zMt.mono {sx : zX} {m m' j n : Nat} {P : zPp} (H : zMt sx m j n P) (h : m' ≤ m) : zMt sx m' j n P := fun m1 h1 => H m1 (Nat.le_trans h1 h)
theorem zwp_ok {sx : zX} {sps : List (Nat × Nat × zPp)} {hs : List zHd} {cs : List zI} {M : zMi} {Ψ : zO → zSg → Prop} {ct : zCp} {m0 j : Nat} (J : zJ3 j M cs hs) (hsp : ∀ q ∈ sps, zMt sx m0 q.1 q.2.1 q.2.2) (hct : ∀ q ∈ ct, ∀ lo st σ, q.2 lo st σ → ∃ n, zwp sx sps hs cs Ψ ct n q.1 lo st σ) : ∀ m1, m1 ≤ m0 + 1 → ∀ (n k : Nat) (lo : zLf) (st : List Value) (σ : zSg), zwp sx sps hs cs Ψ ct n k lo st σ → zRu sx m1 j k lo st σ Ψ
  | 0, _, n, k, lo, st, σ, _ => by
    intro m hm d l h r hK hL hA hr
    rw [show m = 0 by omega, z_run] at hr
    cases hr
  | m1 + 1, h1, 0, k, lo, st, σ, H => False.elim H
  | m1 + 1, h1, n + 1, k, lo, st, σ, H => by
    refine zstp_ok J (fun q hq => (hsp q hq).mono (by omega)) H (fun k' lo' st' σ' h' => ?_)
    cases hc : q_ct ct k' with
    | some I =>
      rw [hc] at h'
      obtain ⟨n9, h9⟩ := hct _ (q_ct_ok hc) lo' st' σ' h'
      exact zwp_ok J hsp hct m1 (by omega) n9 k' lo' st' σ' h9
    | none =>
      rw [hc] at h'
      exact zwp_ok J hsp hct m1 (by omega) n k' lo' st' σ' h'
theorem zfl {sx : zX} {sps : List (Nat × Nat × zPp)} {hs : List zHd} {cs : List zI} {M : zMi} {m0 j n : Nat} {P : zPp} (J : zJ3 j M cs hs) (hsp : ∀ q ∈ sps, zMt sx m0 q.1 q.2.1 q.2.2) (H : ∀ (as : List Value) (σ : zSg), as.length = n → ∃ (ct : zCp) (N : Nat), (∀ q ∈ ct, ∀ lo st σ', q.2 lo st σ' → ∃ n, zwp sx sps hs cs (P as σ) ct n q.1 lo st σ') ∧ zwp sx sps hs cs (P as σ) ct N 0 (fun i => as.getD i .null) [] σ) : zMt sx (m0 + 1) j n P := by
  intro m hm d h as r hK hn hc hr
  obtain ⟨ct, N, h1, h2⟩ := H as (za h) hn
  exact zwp_ok J hsp h1 (m0 + 1) (Nat.le_refl _) N 0 _ [] (za h) h2 m hm d _ h r hK (zLr.args as 0 _ (q_c1_ok hc) (fun i => by rw [Nat.zero_add])) rfl hr
theorem zMt0 {sx : zX} {j n : Nat} {P : zPp} : zMt sx 0 j n P := by
  intro m hm d h as r hK hn hc hr
  rw [show m = 0 by omega, z_run] at hr
  cases hr
noncomputable def zEe (sx : zX) (j n : Nat) (P : zPp) : Prop := ∀ m, zMt sx m j n P
theorem zfle {sx : zX} {sps : List (Nat × Nat × zPp)} {hs : List zHd} {cs : List zI} {M : zMi} {j n : Nat} {P : zPp} (J : zJ3 j M cs hs) (hsp : ∀ q ∈ sps, zEe sx q.1 q.2.1 q.2.2) (H : ∀ (as : List Value) (σ : zSg), as.length = n → ∃ (ct : zCp) (N : Nat), (∀ q ∈ ct, ∀ lo st σ', q.2 lo st σ' → ∃ n, zwp sx sps hs cs (P as σ) ct n q.1 lo st σ') ∧ zwp sx sps hs cs (P as σ) ct N 0 (fun i => as.getD i .null) [] σ) : zEe sx j n P := fun m => (zfl J (fun q hq => hsp q hq m) H).mono (Nat.le_succ m)
/-- a method without loops -/
theorem zfl0 {sx : zX} {sps : List (Nat × Nat × zPp)} {hs : List zHd} {cs : List zI} {M : zMi} {j n : Nat} {P : zPp} (N : Nat) (J : zJ3 j M cs hs) (hsp : ∀ q ∈ sps, zEe sx q.1 q.2.1 q.2.2) (H : ∀ (as : List Value) (σ : zSg), as.length = n → zwp sx sps hs cs (P as σ) [] N 0 (fun i => as.getD i .null) [] σ) : zEe sx j n P := zfle J hsp (fun as σ h => ⟨[], N, fun q hq => absurd hq List.not_mem_nil, H as σ h⟩)
/-- what is proved of every end holds of the end that is proved -/
theorem zEe.ok {sx : zX} {d j n : Nat} {as : List Value} {h : zH} {Φ : zO → zH → Nat → Nat → Prop} {P : zPp} (H : zEe sx j n P) (hK : zKh h) (hn : as.length = n) (hc : q_c1 as = true) (R : z_ok sx d j 0 (lv_args 0 as) [] h Φ) : z_ok sx d j 0 (lv_args 0 as) [] h (fun o h' x y => Φ o h' x y ∧ zKh h' ∧ P as (za h) o (za h')) := by
  obtain ⟨m, o, h', x, y, e, q⟩ := R
  obtain ⟨K1, P1⟩ := H m m (Nat.le_refl _) d h as _ hK hn hc e
  exact ⟨m, o, h', x, y, e, q, K1, P1⟩
end
section
/-! the reference's reader, exact; printed with wip/gen/gen_t1.py -/
theorem cm0t {x y : Int32} (h : z_cmp 0 x y = true) : x.toInt = y.toInt := zcmp_eq.mp h
theorem cm0f {x y : Int32} (h : z_cmp 0 x y = false) : x.toInt ≠ y.toInt := fun e => by rw [zcmp_eq.mpr e] at h; cases h
theorem cm1t {x y : Int32} (h : z_cmp 1 x y = true) : x.toInt ≠ y.toInt := zcmp_ne.mp h
theorem cm1f {x y : Int32} (h : z_cmp 1 x y = false) : x.toInt = y.toInt := Decidable.byContradiction fun e => by rw [zcmp_ne.mpr e] at h; cases h
theorem cm2t {x y : Int32} (h : z_cmp 2 x y = true) : x.toInt < y.toInt := zcmp_lt.mp h
theorem cm2f {x y : Int32} (h : z_cmp 2 x y = false) : x.toInt ≥ y.toInt := Int.not_lt.mp fun e => by rw [zcmp_lt.mpr e] at h; cases h
theorem cm3t {x y : Int32} (h : z_cmp 3 x y = true) : x.toInt ≥ y.toInt := zcmp_ge.mp h
theorem cm3f {x y : Int32} (h : z_cmp 3 x y = false) : x.toInt < y.toInt := Int.not_le.mp fun e => by rw [zcmp_ge.mpr e] at h; cases h
theorem cm4t {x y : Int32} (h : z_cmp 4 x y = true) : x.toInt > y.toInt := cm2t (x := y) (y := x) h
theorem cm4f {x y : Int32} (h : z_cmp 4 x y = false) : x.toInt ≤ y.toInt := cm2f (x := y) (y := x) h
theorem cm5t {x y : Int32} (h : z_cmp 5 x y = true) : x.toInt ≤ y.toInt := cm3t (x := y) (y := x) h
theorem cm5f {x y : Int32} (h : z_cmp 5 x y = false) : x.toInt > y.toInt := cm3f (x := y) (y := x) h
theorem q_inp {j : Int32} {n : Nat} (h : z_in j n = true) : 0 ≤ j.toInt ∧ j.toInt < (n : Int) := by
  have h1 := z_inp h
  unfold z_in at h
  rw [Bool.not_eq_true', Bool.or_eq_false_iff, decide_eq_false_iff_not, decide_eq_false_iff_not, Int32.lt_iff_toInt_lt] at h
  have e : j.toNatClampNeg = j.toInt.toNat := rfl
  have e0 : (0 : Int32).toInt = 0 := rfl
  omega
noncomputable def q_f (σ : zSg) (c b : Nat) : Int32 := q_i (σ.1 c b)
noncomputable def q_p (σ : zSg) (c b : Nat) : Nat := q_r (σ.1 c b)
theorem q_ii (x : Int32) : q_i (.int x) = x := rfl
theorem q_w_at (σ : zSg) (c k : Nat) (v : Value) : (q_w σ c k v).1 c k = v := by
  show q_up σ.1 c k v c k = v
  unfold q_up
  rw [if_pos ⟨rfl, rfl⟩]
theorem q_w_ne {σ : zSg} {c k c' k' : Nat} {v : Value} (h : c' = c → k' = k → False) : (q_w σ c k v).1 c' k' = σ.1 c' k' := by
  show q_up σ.1 c k v c' k' = σ.1 c' k'
  unfold q_up
  rw [if_neg (fun q => h q.1 q.2)]
theorem q_w_2 (σ : zSg) (c k : Nat) (v : Value) : (q_w σ c k v).2 = σ.2 := rfl
theorem q_w_w {σ : zSg} {c k : Nat} {v w : Value} : q_w (q_w σ c k v) c k w = q_w σ c k w := by
  refine Prod.ext ?_ rfl
  funext c' k'
  show q_up (q_up σ.1 c k v) c k w c' k' = q_up σ.1 c k w c' k'
  unfold q_up
  by_cases h : c' = c ∧ k' = k
  · rw [if_pos h, if_pos h]
  · rw [if_neg h, if_neg h, if_neg h]
theorem q_w_cm {σ : zSg} {c k c' k' : Nat} {v w : Value} (h : c' = c → k' = k → False) : q_w (q_w σ c k v) c' k' w = q_w (q_w σ c' k' w) c k v := by
  refine Prod.ext ?_ rfl
  funext d e
  show q_up (q_up σ.1 c k v) c' k' w d e = q_up (q_up σ.1 c' k' w) c k v d e
  unfold q_up
  by_cases h1 : d = c' ∧ e = k'
  · rw [if_pos h1, if_neg (fun q => h (h1.1.symm.trans q.1) (h1.2.symm.trans q.2)), if_pos h1]
  · rw [if_neg h1, if_neg h1]
theorem q_w_id {σ : zSg} {c k : Nat} {v : Value} (h : σ.1 c k = v) : q_w σ c k v = σ := by
  refine Prod.ext ?_ rfl
  funext d e
  show q_up σ.1 c k v d e = σ.1 d e
  unfold q_up
  by_cases h1 : d = c ∧ e = k
  · rw [if_pos h1, h1.1, h1.2, h]
  · rw [if_neg h1]
/-- the reader of the reference: its point, begin -/
noncomputable def q_rs (σ : zSg) (a P Q : Nat) : zSg := q_w (q_w σ a 10 (.int (Int32.ofNat P))) a 12 (.int (Int32.ofNat Q))
noncomputable def rb (σ : zSg) (a k : Nat) : Int := (q_i (σ.1 (q_r (σ.1 a 8)) k)).toInt
noncomputable def rS (σ : zSg) (a P E : Nat) : Prop := q_r (σ.1 a 8) ≠ a ∧ σ.1 a 10 = .int (Int32.ofNat P) ∧ σ.1 a 11 = .int (Int32.ofNat E) ∧ P ≤ E ∧ E ≤ 400
theorem o32 {n : Nat} (h : n ≤ 1000) : (Int32.ofNat n).toInt = (n : Int) := zofNat h
theorem o32i {n : Nat} (h : n ≤ 900) : Int32.ofNat n + Int32.ofInt 1 = Int32.ofNat (n + 1) := by
  refine Int32.toInt_inj.mp ?_
  rw [zI_add (o32 (by omega)) (zI_c (by omega) (by omega)) (by omega) (by omega), o32 (by omega)]
  omega
theorem o32n {n : Nat} (h : n ≤ 1000) : (Int32.ofNat n).toNatClampNeg = n := znat (o32 h)
section RTK
variable {σ : zSg} {a P E Q : Nat} {v : Value}
theorem rb_w {k : Nat} (h : q_r (σ.1 a 8) ≠ a) (hk : k ≠ 8) : rb (q_w σ a k v) a = rb σ a := by
  funext i
  unfold rb
  rw [q_w_ne (c' := a) (k' := 8) (fun _ q => hk q.symm), q_w_ne (fun q _ => h q)]
theorem rS.pt (H : rS σ a P E) {K : Nat} (hK : K ≤ E) : rS (q_w σ a 10 (.int (Int32.ofNat K))) a K E := by
  obtain ⟨h1, h2, h3, h4, h5⟩ := H
  refine ⟨?_, q_w_at _ _ _ _, ?_, hK, h5⟩
  · rw [q_w_ne (fun _ q => by omega)]; exact h1
  · rw [q_w_ne (fun _ q => by omega)]; exact h3
theorem rS.bg (H : rS σ a P E) : rS (q_w σ a 12 v) a P E := by
  obtain ⟨h1, h2, h3, h4, h5⟩ := H
  refine ⟨?_, ?_, ?_, h4, h5⟩
  · rw [q_w_ne (fun _ q => by omega)]; exact h1
  · rw [q_w_ne (fun _ q => by omega)]; exact h2
  · rw [q_w_ne (fun _ q => by omega)]; exact h3
theorem rS.rs (H : rS σ a P E) {K Q : Nat} (hK : K ≤ E) : rS (q_rs σ a K Q) a K E := (H.pt hK).bg
theorem rb_rs {K : Nat} (H : rS σ a P E) : rb (q_rs σ a K Q) a = rb σ a := by
  unfold q_rs
  rw [rb_w (by rw [q_w_ne (fun _ q => by omega)]; exact H.1) (by omega), rb_w H.1 (by omega)]
theorem q_rs_rs {K L : Nat} : q_rs (q_rs σ a K L) a P Q = q_rs σ a P Q := by
  unfold q_rs
  rw [q_w_cm (σ := q_w σ a 10 (.int (Int32.ofNat K))) (c := a) (k := 12) (c' := a) (k' := 10) (fun _ q => by omega), q_w_w, q_w_w]
theorem q_rs_pt {K L : Nat} : q_w (q_rs σ a K L) a 10 (.int (Int32.ofNat P)) = q_rs σ a P L := by
  unfold q_rs
  rw [q_w_cm (fun _ q => by omega), q_w_w]
theorem q_rs_12 {K : Nat} : (q_rs σ a K Q).1 a 12 = .int (Int32.ofNat Q) := q_w_at _ _ _ _
theorem q_rs_10 {K : Nat} : (q_rs σ a K Q).1 a 10 = .int (Int32.ofNat K) := by
  unfold q_rs
  rw [q_w_ne (fun _ q => by omega), q_w_at]
end RTK
/-! a tape as a text, and the grammar of a law's text as functions of places: b the byte at a place, E the text's length; a place stands behind blanks -/
noncomputable def zrn (b : Nat → Int) (E : Nat) (lo hi : Int) : Nat → Nat → Nat
  | 0, P => P
  | n + 1, P => if P < E ∧ lo ≤ b P ∧ b P ≤ hi then zrn b E lo hi n (P + 1) else P
/-- the first place from P on whose byte isn't between -/
noncomputable def zRn (b : Nat → Int) (E : Nat) (lo hi : Int) (P : Nat) : Nat := zrn b E lo hi (E - P) P
section ZPU
variable {b : Nat → Int} {E : Nat} {lo hi : Int} {P : Nat}
theorem zRn_t (h : P < E ∧ lo ≤ b P ∧ b P ≤ hi) : zRn b E lo hi P = zRn b E lo hi (P + 1) := by
  unfold zRn
  rw [show E - P = (E - (P + 1)) + 1 by omega, zrn, if_pos h]
theorem zRn_f (h : ¬ (P < E ∧ lo ≤ b P ∧ b P ≤ hi)) : zRn b E lo hi P = P := by
  unfold zRn
  cases hn : E - P with
  | zero => rfl
  | succ n => rw [zrn, if_neg h]
theorem zRn_all : ∀ (n P : Nat), E - P = n → P ≤ zRn b E lo hi P ∧ (∀ k, P ≤ k → k < zRn b E lo hi P → k < E ∧ lo ≤ b k ∧ b k ≤ hi) ∧ ¬ (zRn b E lo hi P < E ∧ lo ≤ b (zRn b E lo hi P) ∧ b (zRn b E lo hi P) ≤ hi)
  | n, P, hn => by
    by_cases h : P < E ∧ lo ≤ b P ∧ b P ≤ hi
    · rw [zRn_t h]
      match n, hn with
      | 0, hn => omega
      | n + 1, hn =>
      obtain ⟨i1, i2, i3⟩ := zRn_all n (P + 1) (by omega)
      refine ⟨by omega, fun k h1 h2 => ?_, i3⟩
      by_cases hk : k = P
      · rw [hk]; exact h
      · exact i2 k (by omega) h2
    · rw [zRn_f h]
      exact ⟨Nat.le_refl _, fun k h1 h2 => absurd h1 (by omega), h⟩
theorem zRn_ge : P ≤ zRn b E lo hi P := (zRn_all _ P rfl).1
theorem zRn_in {k : Nat} (h1 : P ≤ k) (h2 : k < zRn b E lo hi P) : k < E ∧ lo ≤ b k ∧ b k ≤ hi := (zRn_all _ P rfl).2.1 k h1 h2
theorem zRn_end : ¬ (zRn b E lo hi P < E ∧ lo ≤ b (zRn b E lo hi P) ∧ b (zRn b E lo hi P) ≤ hi) := (zRn_all _ P rfl).2.2
theorem zRn_le (h : P ≤ E) : zRn b E lo hi P ≤ E := by
  by_cases hq : zRn b E lo hi P ≤ E
  · exact hq
  · have := zRn_in (b := b) (E := E) (lo := lo) (hi := hi) (P := P) (k := E) h (by omega)
    omega
theorem zRn_uniq {K : Nat} (h1 : P ≤ K) (h2 : ∀ k, P ≤ k → k < K → k < E ∧ lo ≤ b k ∧ b k ≤ hi) (h3 : ¬ (K < E ∧ lo ≤ b K ∧ b K ≤ hi)) : zRn b E lo hi P = K := by
  have g1 := zRn_ge (b := b) (E := E) (lo := lo) (hi := hi) (P := P)
  by_cases q : zRn b E lo hi P = K
  · exact q
  · by_cases q2 : zRn b E lo hi P < K
    · exact absurd (h2 _ g1 q2) zRn_end
    · exact absurd (zRn_in (b := b) (E := E) (lo := lo) (hi := hi) h1 (by omega)) h3
end ZPU
noncomputable def zBl (b : Nat → Int) (E P : Nat) : Nat := zRn b E 32 32 P
noncomputable def zDv (b : Nat → Int) (A : Nat) : Nat → Int
  | 0 => 0
  | n + 1 => if n < 3 then 10 * zDv b A n + b (A + n) - 48 else zDv b A n
noncomputable def p_201 (a : Nat) (lo hi : Int32) (σ : zSg) (r : Int32) (σ' : zSg) : Prop := σ' = σ ∧ ∀ P E, rS σ a P E → r = if P < E ∧ lo.toInt ≤ rb σ a P ∧ rb σ a P ≤ hi.toInt then 1 else 0
theorem p_201.t {a : Nat} {lo hi r : Int32} {σ σ' : zSg} (H : p_201 a lo hi σ r σ') {P E : Nat} (S : rS σ a P E) (h : r.toInt ≠ 0) : P < E ∧ lo.toInt ≤ rb σ a P ∧ rb σ a P ≤ hi.toInt := by
  by_cases hc : P < E ∧ lo.toInt ≤ rb σ a P ∧ rb σ a P ≤ hi.toInt
  · exact hc
  · have := H.2 P E S
    rw [if_neg hc] at this
    rw [this] at h
    exact absurd rfl h
theorem p_201.f {a : Nat} {lo hi r : Int32} {σ σ' : zSg} (H : p_201 a lo hi σ r σ') {P E : Nat} (S : rS σ a P E) (h : r.toInt = 0) : ¬ (P < E ∧ lo.toInt ≤ rb σ a P ∧ rb σ a P ≤ hi.toInt) := by
  intro hc
  have := H.2 P E S
  rw [if_pos hc] at this
  rw [this] at h
  exact absurd h (by decide)
theorem sp_201_et (a0 : Nat) (a1 : Int32) (a2 : Int32) (σ : zSg) (h1 : (q_i (σ.1 a0 10)).toInt ≥ (q_i (σ.1 a0 11)).toInt) :
    p_201 (a0) (a1) (a2) σ (Int32.ofInt (0)) σ := by
  refine ⟨rfl, fun P E S => ?_⟩
  obtain ⟨s1, s2, s3, s4, s5⟩ := S
  have hb : rb σ a0 P = (q_i (σ.1 (q_r (σ.1 a0 8)) P)).toInt := rfl
  simp only [s2, s3, q_ii, o32n (show P ≤ 1000 by omega), o32 (show P ≤ 1000 by omega), o32 (show E ≤ 1000 by omega)] at *
  first
    | rw [if_pos (by omega)]; rfl
    | rw [if_neg (by omega)]; rfl
theorem sp_201_eft (a0 : Nat) (a1 : Int32) (a2 : Int32) (σ : zSg) (h1 : (q_i (σ.1 a0 10)).toInt < (q_i (σ.1 a0 11)).toInt) (h2 : 0 ≤ (q_i (σ.1 a0 10)).toInt ∧ (q_i (σ.1 a0 10)).toInt < (σ.2.1 (q_r (σ.1 a0 8)) : Int)) (h3 : (q_i (σ.1 (q_r (σ.1 a0 8)) (q_i (σ.1 a0 10)).toNatClampNeg)).toInt < a1.toInt) :
    p_201 (a0) (a1) (a2) σ (Int32.ofInt (0)) σ := by
  refine ⟨rfl, fun P E S => ?_⟩
  obtain ⟨s1, s2, s3, s4, s5⟩ := S
  have hb : rb σ a0 P = (q_i (σ.1 (q_r (σ.1 a0 8)) P)).toInt := rfl
  simp only [s2, s3, q_ii, o32n (show P ≤ 1000 by omega), o32 (show P ≤ 1000 by omega), o32 (show E ≤ 1000 by omega)] at *
  first
    | rw [if_pos (by omega)]; rfl
    | rw [if_neg (by omega)]; rfl
theorem sp_201_efft (a0 : Nat) (a1 : Int32) (a2 : Int32) (σ : zSg) (h1 : (q_i (σ.1 a0 10)).toInt < (q_i (σ.1 a0 11)).toInt) (h2 : 0 ≤ (q_i (σ.1 a0 10)).toInt ∧ (q_i (σ.1 a0 10)).toInt < (σ.2.1 (q_r (σ.1 a0 8)) : Int)) (h3 : (q_i (σ.1 (q_r (σ.1 a0 8)) (q_i (σ.1 a0 10)).toNatClampNeg)).toInt ≥ a1.toInt) (h4 : 0 ≤ (q_i (σ.1 a0 10)).toInt ∧ (q_i (σ.1 a0 10)).toInt < (σ.2.1 (q_r (σ.1 a0 8)) : Int)) (h5 : (q_i (σ.1 (q_r (σ.1 a0 8)) (q_i (σ.1 a0 10)).toNatClampNeg)).toInt > a2.toInt) :
    p_201 (a0) (a1) (a2) σ (Int32.ofInt (0)) σ := by
  refine ⟨rfl, fun P E S => ?_⟩
  obtain ⟨s1, s2, s3, s4, s5⟩ := S
  have hb : rb σ a0 P = (q_i (σ.1 (q_r (σ.1 a0 8)) P)).toInt := rfl
  simp only [s2, s3, q_ii, o32n (show P ≤ 1000 by omega), o32 (show P ≤ 1000 by omega), o32 (show E ≤ 1000 by omega)] at *
  first
    | rw [if_pos (by omega)]; rfl
    | rw [if_neg (by omega)]; rfl
theorem sp_201_efff (a0 : Nat) (a1 : Int32) (a2 : Int32) (σ : zSg) (h1 : (q_i (σ.1 a0 10)).toInt < (q_i (σ.1 a0 11)).toInt) (h2 : 0 ≤ (q_i (σ.1 a0 10)).toInt ∧ (q_i (σ.1 a0 10)).toInt < (σ.2.1 (q_r (σ.1 a0 8)) : Int)) (h3 : (q_i (σ.1 (q_r (σ.1 a0 8)) (q_i (σ.1 a0 10)).toNatClampNeg)).toInt ≥ a1.toInt) (h4 : 0 ≤ (q_i (σ.1 a0 10)).toInt ∧ (q_i (σ.1 a0 10)).toInt < (σ.2.1 (q_r (σ.1 a0 8)) : Int)) (h5 : (q_i (σ.1 (q_r (σ.1 a0 8)) (q_i (σ.1 a0 10)).toNatClampNeg)).toInt ≤ a2.toInt) :
    p_201 (a0) (a1) (a2) σ (Int32.ofInt (1)) σ := by
  refine ⟨rfl, fun P E S => ?_⟩
  obtain ⟨s1, s2, s3, s4, s5⟩ := S
  have hb : rb σ a0 P = (q_i (σ.1 (q_r (σ.1 a0 8)) P)).toInt := rfl
  simp only [s2, s3, q_ii, o32n (show P ≤ 1000 by omega), o32 (show P ≤ 1000 by omega), o32 (show E ≤ 1000 by omega)] at *
  first
    | rw [if_pos (by omega)]; rfl
    | rw [if_neg (by omega)]; rfl
noncomputable def qP_201 : zPp := fun as σ o σ' => match as with
  | [a0, a1, a2] => ∃ r, o = .inl (some (.int r)) ∧ p_201 (q_r a0) (q_i a1) (q_i a2) σ r σ'
  | _ => True
set_option maxRecDepth 100000 in
theorem sp_201 {sx : zX}  : zEe sx 201 3 qP_201 := by
  refine zfle zJ_201 (sps := []) (fun q hq => absurd hq List.not_mem_nil) (fun as σ hl => ?_)
  match as, hl with
  | [a0, a1, a2], _ =>
  refine ⟨[], 400, ?_, ?_⟩
  · exact fun q hq => absurd hq List.not_mem_nil
  · refine And.intro (fun h1 => ?_) (fun h1 => ?_)
    · exact ⟨_, rfl, sp_201_et (q_r a0) (q_i a1) (q_i a2) σ (cm3t h1)⟩
    · refine fun h2 => ?_
      refine And.intro (fun h3 => ?_) (fun h3 => ?_)
      · exact ⟨_, rfl, sp_201_eft (q_r a0) (q_i a1) (q_i a2) σ (cm3f h1) (q_inp h2) (cm2t h3)⟩
      · refine fun h4 => ?_
        refine And.intro (fun h5 => ?_) (fun h5 => ?_)
        · exact ⟨_, rfl, sp_201_efft (q_r a0) (q_i a1) (q_i a2) σ (cm3f h1) (q_inp h2) (cm2f h3) (q_inp h4) (cm4t h5)⟩
        · exact ⟨_, rfl, sp_201_efff (q_r a0) (q_i a1) (q_i a2) σ (cm3f h1) (q_inp h2) (cm2f h3) (q_inp h4) (cm4f h5)⟩
noncomputable def p_202 (a : Nat) (σ σ' : zSg) : Prop := ∀ P E, rS σ a P E → σ' = q_rs σ a (zBl (rb σ a) E P) (zBl (rb σ a) E P)
noncomputable def i_202 (a : Nat) (σ : zSg) (l : Nat) (τ : zSg) : Prop := l = a ∧ ∀ P E, rS σ a P E → ∃ K, K ≤ E ∧ zBl (rb σ a) E P = zBl (rb σ a) E K ∧ τ = q_w σ a 10 (.int (Int32.ofNat K))
theorem zBl_t {b : Nat → Int} {E P : Nat} (h : P < E ∧ 32 ≤ b P ∧ b P ≤ 32) : zBl b E P = zBl b E (P + 1) := zRn_t h
theorem zBl_f {b : Nat → Int} {E P : Nat} (h : ¬ (P < E ∧ 32 ≤ b P ∧ b P ≤ 32)) : zBl b E P = P := zRn_f h
theorem zBl_le {b : Nat → Int} {E P : Nat} (h : P ≤ E) : zBl b E P ≤ E := zRn_le h
theorem zBl_ge {b : Nat → Int} {E P : Nat} : P ≤ zBl b E P := zRn_ge
theorem zBl_bl {b : Nat → Int} {E P : Nat} : zBl b E (zBl b E P) = zBl b E P := zBl_f zRn_end
theorem sp_202_et (a0 : Nat) (σ : zSg) (τ1 : zSg) (r1 : Int32) (g1 : p_201 a0 (Int32.ofInt (32)) (Int32.ofInt (32)) σ r1 τ1) (h2 : r1.toInt = (0 : Int)) :
    p_202 (a0) σ (q_w τ1 a0 12 (.int (q_i (τ1.1 a0 10)))) := by
  intro P E S
  obtain rfl := g1.1.symm
  have hc := g1.f S h2
  rw [zBl_f hc]
  show q_w σ a0 12 (.int (q_i (σ.1 a0 10))) = _
  unfold q_rs
  rw [q_w_id S.2.1, S.2.1]
  rfl
theorem sp_202_ef (a0 : Nat) (σ : zSg) (τ1 : zSg) (r1 : Int32) (g1 : p_201 a0 (Int32.ofInt (32)) (Int32.ofInt (32)) σ r1 τ1) (h2 : r1.toInt ≠ (0 : Int)) :
    i_202 a0 σ a0 (q_w τ1 a0 10 (.int ((q_i (τ1.1 a0 10)) + (Int32.ofInt (1))))) := by
  refine ⟨rfl, fun P E S => ?_⟩
  obtain rfl := g1.1.symm
  have hc := g1.t S h2
  refine ⟨P + 1, by omega, zBl_t hc, ?_⟩
  have h9 : P ≤ 400 := by have := S.2.2.2; omega
  show q_w σ a0 10 (.int (q_i (σ.1 a0 10) + _)) = _
  rw [S.2.1, ← o32i (by omega)]
  rfl
theorem sp_202_c0_t (a0 : Nat) (σ : zSg) (l0 : Nat) (τ : zSg) (τ3 : zSg) (r3 : Int32) (hI : i_202 a0 σ l0 τ) (g3 : p_201 l0 (Int32.ofInt (32)) (Int32.ofInt (32)) τ r3 τ3) (h4 : r3.toInt = (0 : Int)) :
    p_202 (a0) σ (q_w τ3 l0 12 (.int (q_i (τ3.1 l0 10)))) := by
  obtain ⟨rfl, G⟩ := hI
  intro P E S
  obtain ⟨K, k1, k2, rfl⟩ := G P E S
  have S1 := S.pt k1
  have hb := rb_w (v := .int (Int32.ofNat K)) S.1 (show 10 ≠ 8 by omega)
  obtain rfl := g3.1.symm
  have hc := g3.f S1 h4
  rw [hb] at hc
  rw [k2, zBl_f hc]
  show q_w (q_w σ l0 10 (.int (Int32.ofNat K))) l0 12 (.int (q_i ((q_w σ l0 10 (.int (Int32.ofNat K))).1 l0 10))) = _
  rw [q_w_at]
  rfl
theorem sp_202_c0_f (a0 : Nat) (σ : zSg) (l0 : Nat) (τ : zSg) (τ3 : zSg) (r3 : Int32) (hI : i_202 a0 σ l0 τ) (g3 : p_201 l0 (Int32.ofInt (32)) (Int32.ofInt (32)) τ r3 τ3) (h4 : r3.toInt ≠ (0 : Int)) :
    i_202 a0 σ l0 (q_w τ3 l0 10 (.int ((q_i (τ3.1 l0 10)) + (Int32.ofInt (1))))) := by
  obtain ⟨rfl, G⟩ := hI
  refine ⟨rfl, fun P E S => ?_⟩
  obtain ⟨K, k1, k2, rfl⟩ := G P E S
  have S1 := S.pt k1
  have hb := rb_w (v := .int (Int32.ofNat K)) S.1 (show 10 ≠ 8 by omega)
  obtain rfl := g3.1.symm
  have hc := g3.t S1 h4
  rw [hb] at hc
  refine ⟨K + 1, by omega, k2.trans (zBl_t hc), ?_⟩
  have h9 : E ≤ 400 := by have := S.2.2.2; omega
  show q_w (q_w σ l0 10 (.int (Int32.ofNat K))) l0 10 (.int (q_i ((q_w σ l0 10 (.int (Int32.ofNat K))).1 l0 10) + _)) = _
  rw [q_w_at, q_w_w, ← o32i (by omega)]
  rfl
noncomputable def qP_202 : zPp := fun as σ o σ' => match as with
  | [a0] => o = .inl none ∧ p_202 (q_r a0) σ σ'
  | _ => True
set_option maxRecDepth 100000 in
theorem sp_202 {sx : zX} (S201 : zEe sx 201 3 qP_201) : zEe sx 202 1 qP_202 := by
  refine zfle zJ_202 (sps := [(201, 3, qP_201)]) (fun q hq => by
    simp only [List.mem_cons, List.not_mem_nil, or_false] at hq
    rcases hq with rfl
    · exact S201) (fun as σ hl => ?_)
  match as, hl with
  | [a0], _ =>
  refine ⟨[(0, fun lo st τ => st = [] ∧ i_202 (q_r a0) σ (q_r (lo 0)) τ)], 400, ?_, ?_⟩
  · intro q hq
    simp only [List.mem_cons, List.not_mem_nil, or_false] at hq
    rcases hq with rfl
    · rintro lo st τ ⟨rfl, hI⟩
      refine ⟨400, ?_⟩
      refine fun o3 τ3 g3 => ?_
      obtain ⟨r3, rfl, g3⟩ := g3
      refine And.intro (fun h4 => ?_) (fun h4 => ?_)
      · exact ⟨rfl, sp_202_c0_t (q_r a0) σ (q_r (lo 0)) τ τ3 r3 hI g3 (cm0t h4)⟩
      · exact ⟨rfl, sp_202_c0_f (q_r a0) σ (q_r (lo 0)) τ τ3 r3 hI g3 (cm0f h4)⟩
  · refine fun o1 τ1 g1 => ?_
    obtain ⟨r1, rfl, g1⟩ := g1
    refine And.intro (fun h2 => ?_) (fun h2 => ?_)
    · exact ⟨rfl, sp_202_et (q_r a0) σ τ1 r1 g1 (cm0t h2)⟩
    · exact ⟨rfl, sp_202_ef (q_r a0) σ τ1 r1 g1 (cm0f h2)⟩
noncomputable def p_203 (a : Nat) (σ σ' : zSg) : Prop := ∀ P E, rS σ a P E → σ' = q_rs σ a (zRn (rb σ a) E 97 122 (zBl (rb σ a) E P)) (zBl (rb σ a) E P)
noncomputable def i_203 (a : Nat) (σ : zSg) (l : Nat) (τ : zSg) : Prop := l = a ∧ ∀ P E, rS σ a P E → ∃ K, K ≤ E ∧ zRn (rb σ a) E 97 122 (zBl (rb σ a) E P) = zRn (rb σ a) E 97 122 K ∧ τ = q_rs σ a K (zBl (rb σ a) E P)
theorem sp_203_e (a0 : Nat) (σ : zSg) (τ1 : zSg) (g1 : p_202 a0 σ τ1) :
    i_203 a0 σ a0 τ1 := by
  refine ⟨rfl, fun P E S => ?_⟩
  exact ⟨zBl (rb σ a0) E P, zBl_le S.2.2.2.1, rfl, g1 P E S⟩
theorem sp_203_c2_t (a0 : Nat) (σ : zSg) (l0 : Nat) (τ : zSg) (τ2 : zSg) (r2 : Int32) (hI : i_203 a0 σ l0 τ) (g2 : p_201 l0 (Int32.ofInt (97)) (Int32.ofInt (122)) τ r2 τ2) (h3 : r2.toInt = (0 : Int)) :
    p_203 (a0) σ τ2 := by
  obtain ⟨rfl, G⟩ := hI
  intro P E S
  obtain ⟨K, k1, k2, rfl⟩ := G P E S
  have S1 := S.rs (Q := zBl (rb σ l0) E P) k1
  obtain rfl := g2.1.symm
  have hc := g2.f S1 h3
  rw [rb_rs S] at hc
  rw [k2, zRn_f (lo := 97) (hi := 122) hc]
theorem sp_203_c2_f (a0 : Nat) (σ : zSg) (l0 : Nat) (τ : zSg) (τ2 : zSg) (r2 : Int32) (hI : i_203 a0 σ l0 τ) (g2 : p_201 l0 (Int32.ofInt (97)) (Int32.ofInt (122)) τ r2 τ2) (h3 : r2.toInt ≠ (0 : Int)) :
    i_203 a0 σ l0 (q_w τ2 l0 10 (.int ((q_i (τ2.1 l0 10)) + (Int32.ofInt (1))))) := by
  obtain ⟨rfl, G⟩ := hI
  refine ⟨rfl, fun P E S => ?_⟩
  obtain ⟨K, k1, k2, rfl⟩ := G P E S
  have S1 := S.rs (Q := zBl (rb σ l0) E P) k1
  obtain rfl := g2.1.symm
  have hc := g2.t S1 h3
  rw [rb_rs S] at hc
  have h9 : E ≤ 400 := S.2.2.2.2
  refine ⟨K + 1, by omega, k2.trans (zRn_t (lo := 97) (hi := 122) hc), ?_⟩
  rw [q_rs_10]
  show q_w (q_rs σ l0 K _) l0 10 (.int (Int32.ofNat K + Int32.ofInt 1)) = _
  rw [o32i (by omega), q_rs_pt]
noncomputable def qP_203 : zPp := fun as σ o σ' => match as with
  | [a0] => o = .inl none ∧ p_203 (q_r a0) σ σ'
  | _ => True
set_option maxRecDepth 100000 in
theorem sp_203 {sx : zX} (S202 : zEe sx 202 1 qP_202) (S201 : zEe sx 201 3 qP_201) : zEe sx 203 1 qP_203 := by
  refine zfle zJ_203 (sps := [(202, 1, qP_202), (201, 3, qP_201)]) (fun q hq => by
    simp only [List.mem_cons, List.not_mem_nil, or_false] at hq
    rcases hq with rfl | rfl
    · exact S202
    · exact S201) (fun as σ hl => ?_)
  match as, hl with
  | [a0], _ =>
  refine ⟨[(2, fun lo st τ => st = [] ∧ i_203 (q_r a0) σ (q_r (lo 0)) τ)], 400, ?_, ?_⟩
  · intro q hq
    simp only [List.mem_cons, List.not_mem_nil, or_false] at hq
    rcases hq with rfl
    · rintro lo st τ ⟨rfl, hI⟩
      refine ⟨400, ?_⟩
      refine fun o2 τ2 g2 => ?_
      obtain ⟨r2, rfl, g2⟩ := g2
      refine And.intro (fun h3 => ?_) (fun h3 => ?_)
      · exact ⟨rfl, sp_203_c2_t (q_r a0) σ (q_r (lo 0)) τ τ2 r2 hI g2 (cm0t h3)⟩
      · exact ⟨rfl, sp_203_c2_f (q_r a0) σ (q_r (lo 0)) τ τ2 r2 hI g2 (cm0f h3)⟩
  · refine fun o1 τ1 g1 => ?_
    obtain ⟨rfl, g1⟩ := g1
    exact ⟨rfl, sp_203_e (q_r a0) σ τ1 g1⟩
/-- the word stands between begin and point -/
noncomputable def zWd (b : Nat → Int) (s : List Int) (P Q : Nat) : Prop := P = Q + s.length ∧ ∀ k, k < s.length → b (Q + k) = s.getD k 0
noncomputable def q_si (i : Nat) : List Int := (q_s i).map (fun c => (c &&& 255).toInt)
theorem q_si_len (i : Nat) : (q_si i).length = (q_s i).length := List.length_map ..
theorem map_getD (f : Int32 → Int) : ∀ (l : List Int32) (k : Nat), k < l.length → (l.map f).getD k 0 = f (l.getD k 0)
  | [], k, h => absurd h (Nat.not_lt_zero k)
  | x :: l, 0, h => rfl
  | x :: l, k + 1, h => map_getD f l k (Nat.lt_of_succ_lt_succ h)
theorem q_si_at {i k : Nat} (h : k < (q_s i).length) : (q_si i).getD k 0 = ((q_s i).getD k 0 &&& 255).toInt := map_getD (fun c => (c &&& 255).toInt) (q_s i) k h
noncomputable def p_204 (a w : Nat) (σ : zSg) (r : Int32) (σ' : zSg) : Prop := σ' = σ ∧ ∀ P Q E, rS σ a P E → σ.1 a 12 = .int (Int32.ofNat Q) → Q ≤ P → (q_s w).length ≤ 100 → (r.toInt ≠ 0 ↔ zWd (rb σ a) (q_si w) P Q)
noncomputable def i_204 (a w : Nat) (σ : zSg) (l0 l1 : Nat) (is k : Int32) (τ : zSg) : Prop := τ = σ ∧ l0 = a ∧ l1 = w ∧ ∀ P Q E, rS σ a P E → σ.1 a 12 = .int (Int32.ofNat Q) → Q ≤ P → (q_s w).length ≤ 100 → ∃ K : Nat, k = Int32.ofNat K ∧ K ≤ (q_s w).length ∧ (is.toInt = 0 → ¬ zWd (rb σ a) (q_si w) P Q) ∧ (is.toInt ≠ 0 → P = Q + (q_s w).length ∧ ∀ j, j < K → rb σ a (Q + j) = (q_si w).getD j 0)
theorem zWd.len {b : Nat → Int} {w P Q : Nat} (h : P ≠ Q + (q_s w).length) : ¬ zWd b (q_si w) P Q := fun q => h (by rw [← q_si_len]; exact q.1)
theorem sp_204_et (a0 : Nat) (a1 : Nat) (σ : zSg) (h1 : ((q_i (σ.1 a0 10)) - (q_i (σ.1 a0 12))).toInt ≠ (Int32.ofNat (q_s a1).length).toInt) :
    i_204 a0 a1 σ a0 a1 (Int32.ofInt (0)) (Int32.ofInt (0)) σ := by
  refine ⟨rfl, rfl, rfl, fun P Q E S hQ hq hw => ⟨0, rfl, Nat.zero_le _, fun h9 => ?_, fun h9 => ?_⟩⟩
  · have hP : P ≤ 400 := Nat.le_trans S.2.2.2.1 S.2.2.2.2
    rw [S.2.1, hQ] at h1
    have e1 : (Int32.ofNat P - Int32.ofNat Q).toInt = (P : Int) - Q := zI_sub (o32 (by omega)) (o32 (by omega)) (by omega) (by omega)
    have HH1 : (Int32.ofNat P - Int32.ofNat Q).toInt ≠ (Int32.ofNat (q_s a1).length).toInt := h1
    rw [e1, o32 (by omega)] at HH1
    exact zWd.len (by omega)
  · exact absurd rfl h9
theorem sp_204_ef (a0 : Nat) (a1 : Nat) (σ : zSg) (h1 : ((q_i (σ.1 a0 10)) - (q_i (σ.1 a0 12))).toInt = (Int32.ofNat (q_s a1).length).toInt) :
    i_204 a0 a1 σ a0 a1 (Int32.ofInt (1)) (Int32.ofInt (0)) σ := by
  refine ⟨rfl, rfl, rfl, fun P Q E S hQ hq hw => ⟨0, rfl, Nat.zero_le _, fun h9 => absurd h9 (by decide), fun _ => ?_⟩⟩
  have hP : P ≤ 400 := Nat.le_trans S.2.2.2.1 S.2.2.2.2
  rw [S.2.1, hQ] at h1
  have e1 : (Int32.ofNat P - Int32.ofNat Q).toInt = (P : Int) - Q := zI_sub (o32 (by omega)) (o32 (by omega)) (by omega) (by omega)
  have HH1 : (Int32.ofNat P - Int32.ofNat Q).toInt = (Int32.ofNat (q_s a1).length).toInt := h1
  rw [e1, o32 (by omega)] at HH1
  exact ⟨by omega, fun j hj => absurd hj (by omega)⟩
theorem sp_204_c14_t (a0 : Nat) (a1 : Nat) (σ : zSg) (l0 : Nat) (l1 : Nat) (l2 : Int32) (l3 : Int32) (τ : zSg) (hI : i_204 a0 a1 σ l0 l1 l2 l3 τ) (h2 : l2.toInt = (0 : Int)) :
    p_204 (a0) (a1) σ l2 τ := by
  obtain ⟨rfl, rfl, rfl, G⟩ := hI
  refine ⟨rfl, fun P Q E S hQ hq hw => ?_⟩
  obtain ⟨K, rfl, k1, k2, k3⟩ := G P Q E S hQ hq hw
  exact ⟨fun h => absurd h2 h, fun h => absurd h (k2 h2)⟩
theorem sp_204_c14_ft (a0 : Nat) (a1 : Nat) (σ : zSg) (l0 : Nat) (l1 : Nat) (l2 : Int32) (l3 : Int32) (τ : zSg) (hI : i_204 a0 a1 σ l0 l1 l2 l3 τ) (h2 : l2.toInt ≠ (0 : Int)) (h3 : l3.toInt ≥ (Int32.ofNat (q_s l1).length).toInt) :
    p_204 (a0) (a1) σ l2 τ := by
  obtain ⟨rfl, rfl, rfl, G⟩ := hI
  refine ⟨rfl, fun P Q E S hQ hq hw => ?_⟩
  obtain ⟨K, rfl, k1, k2, k3⟩ := G P Q E S hQ hq hw
  obtain ⟨e1, e2⟩ := k3 h2
  rw [o32 (by omega), o32 (by omega)] at h3
  exact ⟨fun _ => ⟨by rw [q_si_len]; exact e1, fun j hj => e2 j (by rw [q_si_len] at hj; omega)⟩, fun _ => h2⟩
theorem sp_204_c14_fft (a0 : Nat) (a1 : Nat) (σ : zSg) (l0 : Nat) (l1 : Nat) (l2 : Int32) (l3 : Int32) (τ : zSg) (hI : i_204 a0 a1 σ l0 l1 l2 l3 τ) (h2 : l2.toInt ≠ (0 : Int)) (h3 : l3.toInt < (Int32.ofNat (q_s l1).length).toInt) (h4 : 0 ≤ ((q_i (τ.1 l0 12)) + l3).toInt ∧ ((q_i (τ.1 l0 12)) + l3).toInt < (τ.2.1 (q_r (τ.1 l0 8)) : Int)) (h5 : 0 ≤ l3.toInt ∧ l3.toInt < ((q_s l1).length : Int)) (h6 : (q_i (τ.1 (q_r (τ.1 l0 8)) ((q_i (τ.1 l0 12)) + l3).toNatClampNeg)).toInt ≠ (((q_s l1).getD l3.toNatClampNeg 0) &&& 255).toInt) :
    i_204 a0 a1 σ l0 l1 (Int32.ofInt (0)) (l3 + Int32.ofInt (1)) τ := by
  obtain ⟨rfl, rfl, rfl, G⟩ := hI
  refine ⟨rfl, rfl, rfl, fun P Q E S hQ hq hw => ?_⟩
  obtain ⟨K, rfl, k1, k2, k3⟩ := G P Q E S hQ hq hw
  have hP : P ≤ 400 := Nat.le_trans S.2.2.2.1 S.2.2.2.2
  obtain ⟨e1, e2⟩ := k3 h2
  rw [o32 (by omega), o32 (by omega)] at h3
  have eb : (q_i (τ.1 (q_r (τ.1 l0 8)) ((Int32.ofNat Q + Int32.ofNat K).toNatClampNeg))).toInt ≠ ((q_s l1).getD (Int32.ofNat K).toNatClampNeg 0 &&& 255).toInt := by
    rw [hQ] at h6
    exact h6
  have ek : (Int32.ofNat Q + Int32.ofNat K).toNatClampNeg = Q + K := znat (by rw [zI_add (o32 (by omega)) (o32 (by omega)) (by omega) (by omega)]; omega)
  rw [ek, o32n (by omega), ← q_si_at (by omega)] at eb
  exact ⟨K + 1, by rw [← o32i (by omega)], by omega, fun _ q => eb (q.2 K (by rw [q_si_len]; omega)), fun h => absurd rfl h⟩
theorem sp_204_c14_fff (a0 : Nat) (a1 : Nat) (σ : zSg) (l0 : Nat) (l1 : Nat) (l2 : Int32) (l3 : Int32) (τ : zSg) (hI : i_204 a0 a1 σ l0 l1 l2 l3 τ) (h2 : l2.toInt ≠ (0 : Int)) (h3 : l3.toInt < (Int32.ofNat (q_s l1).length).toInt) (h4 : 0 ≤ ((q_i (τ.1 l0 12)) + l3).toInt ∧ ((q_i (τ.1 l0 12)) + l3).toInt < (τ.2.1 (q_r (τ.1 l0 8)) : Int)) (h5 : 0 ≤ l3.toInt ∧ l3.toInt < ((q_s l1).length : Int)) (h6 : (q_i (τ.1 (q_r (τ.1 l0 8)) ((q_i (τ.1 l0 12)) + l3).toNatClampNeg)).toInt = (((q_s l1).getD l3.toNatClampNeg 0) &&& 255).toInt) :
    i_204 a0 a1 σ l0 l1 (Int32.ofInt (1)) (l3 + Int32.ofInt (1)) τ := by
  obtain ⟨rfl, rfl, rfl, G⟩ := hI
  refine ⟨rfl, rfl, rfl, fun P Q E S hQ hq hw => ?_⟩
  obtain ⟨K, rfl, k1, k2, k3⟩ := G P Q E S hQ hq hw
  have hP : P ≤ 400 := Nat.le_trans S.2.2.2.1 S.2.2.2.2
  obtain ⟨e1, e2⟩ := k3 h2
  rw [o32 (by omega), o32 (by omega)] at h3
  have eb : (q_i (τ.1 (q_r (τ.1 l0 8)) ((Int32.ofNat Q + Int32.ofNat K).toNatClampNeg))).toInt = ((q_s l1).getD (Int32.ofNat K).toNatClampNeg 0 &&& 255).toInt := by
    rw [hQ] at h6
    exact h6
  have ek : (Int32.ofNat Q + Int32.ofNat K).toNatClampNeg = Q + K := znat (by rw [zI_add (o32 (by omega)) (o32 (by omega)) (by omega) (by omega)]; omega)
  rw [ek, o32n (by omega), ← q_si_at (by omega)] at eb
  refine ⟨K + 1, by rw [← o32i (by omega)], by omega, fun h => absurd h (by decide), fun _ => ⟨e1, fun j hj => ?_⟩⟩
  by_cases hj2 : j = K
  · rw [hj2]; exact eb
  · exact e2 j (by omega)
noncomputable def qP_204 : zPp := fun as σ o σ' => match as with
  | [a0, a1] => ∃ r, o = .inl (some (.int r)) ∧ p_204 (q_r a0) (q_r a1) σ r σ'
  | _ => True
set_option maxRecDepth 100000 in
theorem sp_204 {sx : zX}  : zEe sx 204 2 qP_204 := by
  refine zfle zJ_204 (sps := []) (fun q hq => absurd hq List.not_mem_nil) (fun as σ hl => ?_)
  match as, hl with
  | [a0, a1], _ =>
  refine ⟨[(14, fun lo st τ => st = [] ∧ i_204 (q_r a0) (q_r a1) σ (q_r (lo 0)) (q_r (lo 1)) (q_i (lo 2)) (q_i (lo 3)) τ)], 400, ?_, ?_⟩
  · intro q hq
    simp only [List.mem_cons, List.not_mem_nil, or_false] at hq
    rcases hq with rfl
    · rintro lo st τ ⟨rfl, hI⟩
      refine ⟨400, ?_⟩
      refine And.intro (fun h2 => ?_) (fun h2 => ?_)
      · exact ⟨_, rfl, sp_204_c14_t (q_r a0) (q_r a1) σ (q_r (lo 0)) (q_r (lo 1)) (q_i (lo 2)) (q_i (lo 3)) τ hI (cm0t h2)⟩
      · refine And.intro (fun h3 => ?_) (fun h3 => ?_)
        · exact ⟨_, rfl, sp_204_c14_ft (q_r a0) (q_r a1) σ (q_r (lo 0)) (q_r (lo 1)) (q_i (lo 2)) (q_i (lo 3)) τ hI (cm0f h2) (cm3t h3)⟩
        · refine fun h4 => ?_
          refine fun h5 => ?_
          refine And.intro (fun h6 => ?_) (fun h6 => ?_)
          · exact ⟨rfl, sp_204_c14_fft (q_r a0) (q_r a1) σ (q_r (lo 0)) (q_r (lo 1)) (q_i (lo 2)) (q_i (lo 3)) τ hI (cm0f h2) (cm3f h3) (q_inp h4) (q_inp h5) (cm1t h6)⟩
          · exact ⟨rfl, sp_204_c14_fff (q_r a0) (q_r a1) σ (q_r (lo 0)) (q_r (lo 1)) (q_i (lo 2)) (q_i (lo 3)) τ hI (cm0f h2) (cm3f h3) (q_inp h4) (q_inp h5) (cm1f h6)⟩
  · refine And.intro (fun h1 => ?_) (fun h1 => ?_)
    · exact ⟨rfl, sp_204_et (q_r a0) (q_r a1) σ (cm1t h1)⟩
    · exact ⟨rfl, sp_204_ef (q_r a0) (q_r a1) σ (cm1f h1)⟩
noncomputable def zLt (b : Nat → Int) (E P : Nat) : Nat := zRn b E 97 122 P
/-- the word stands at A -/
noncomputable def zWa (b : Nat → Int) (E : Nat) (s : List Int) (A : Nat) : Prop := zWd b s (zLt b E A) A
noncomputable def p_205 (a w : Nat) (σ : zSg) (r : Int32) (σ' : zSg) : Prop := ∀ P E, rS σ a P E → (q_s w).length ≤ 100 → (r.toInt ≠ 0 ∧ zWa (rb σ a) E (q_si w) (zBl (rb σ a) E P) ∧ σ' = q_rs σ a (zBl (rb σ a) E P + (q_s w).length) (zBl (rb σ a) E P)) ∨ (r.toInt = 0 ∧ ¬ zWa (rb σ a) E (q_si w) (zBl (rb σ a) E P) ∧ σ' = q_rs σ a (zBl (rb σ a) E P) (zBl (rb σ a) E P))
theorem p_204.u {a w P E : Nat} {r : Int32} {σ τ τ' : zSg} (S : rS σ a P E) (G1 : p_203 a σ τ) (G2 : p_204 a w τ r τ') (hw : (q_s w).length ≤ 100) : τ' = τ ∧ τ = q_rs σ a (zLt (rb σ a) E (zBl (rb σ a) E P)) (zBl (rb σ a) E P) ∧ (r.toInt ≠ 0 ↔ zWa (rb σ a) E (q_si w) (zBl (rb σ a) E P)) := by
  have e := G1 P E S
  have hB := zBl_le (b := rb σ a) S.2.2.2.1
  have S1 := S.rs (Q := zBl (rb σ a) E P) (zRn_le (b := rb σ a) (lo := 97) (hi := 122) hB)
  rw [← e] at S1
  have h9 := G2.2 _ (zBl (rb σ a) E P) E S1 (by rw [e]; exact q_rs_12) zRn_ge hw
  rw [show rb τ a = rb σ a by rw [e]; exact rb_rs S] at h9
  exact ⟨G2.1, e, h9⟩
theorem sp_205_et (a0 : Nat) (a1 : Nat) (σ : zSg) (τ1 : zSg) (τ2 : zSg) (r2 : Int32) (g1 : p_203 a0 σ τ1) (g2 : p_204 a0 a1 τ1 r2 τ2) (h3 : r2.toInt = (0 : Int)) :
    p_205 (a0) (a1) σ (Int32.ofInt (0)) (q_w τ2 a0 10 (.int (q_i (τ2.1 a0 12)))) := by
  intro P E S hw
  obtain ⟨rfl, e, h9⟩ := p_204.u S g1 g2 hw
  refine Or.inr ⟨rfl, fun q => (h9.mpr q) h3, ?_⟩
  rw [e, q_rs_12]
  exact q_rs_pt
theorem sp_205_ef (a0 : Nat) (a1 : Nat) (σ : zSg) (τ1 : zSg) (τ2 : zSg) (r2 : Int32) (g1 : p_203 a0 σ τ1) (g2 : p_204 a0 a1 τ1 r2 τ2) (h3 : r2.toInt ≠ (0 : Int)) :
    p_205 (a0) (a1) σ (Int32.ofInt (1)) τ2 := by
  intro P E S hw
  obtain ⟨rfl, e, h9⟩ := p_204.u S g1 g2 hw
  have hz := h9.mp h3
  refine Or.inl ⟨by decide, hz, ?_⟩
  rw [e, show zLt (rb σ a0) E (zBl (rb σ a0) E P) = zBl (rb σ a0) E P + (q_s a1).length by rw [← q_si_len]; exact hz.1]
noncomputable def qP_205 : zPp := fun as σ o σ' => match as with
  | [a0, a1] => ∃ r, o = .inl (some (.int r)) ∧ p_205 (q_r a0) (q_r a1) σ r σ'
  | _ => True
set_option maxRecDepth 100000 in
theorem sp_205 {sx : zX} (S203 : zEe sx 203 1 qP_203) (S204 : zEe sx 204 2 qP_204) : zEe sx 205 2 qP_205 := by
  refine zfle zJ_205 (sps := [(203, 1, qP_203), (204, 2, qP_204)]) (fun q hq => by
    simp only [List.mem_cons, List.not_mem_nil, or_false] at hq
    rcases hq with rfl | rfl
    · exact S203
    · exact S204) (fun as σ hl => ?_)
  match as, hl with
  | [a0, a1], _ =>
  refine ⟨[], 400, ?_, ?_⟩
  · exact fun q hq => absurd hq List.not_mem_nil
  · refine fun o1 τ1 g1 => ?_
    obtain ⟨rfl, g1⟩ := g1
    refine fun o2 τ2 g2 => ?_
    obtain ⟨r2, rfl, g2⟩ := g2
    refine And.intro (fun h3 => ?_) (fun h3 => ?_)
    · exact ⟨_, rfl, sp_205_et (q_r a0) (q_r a1) σ τ1 τ2 r2 g1 g2 (cm0t h3)⟩
    · exact ⟨_, rfl, sp_205_ef (q_r a0) (q_r a1) σ τ1 τ2 r2 g1 g2 (cm0f h3)⟩
noncomputable def p_206 (a : Nat) (c : Int32) (σ : zSg) (r : Int32) (σ' : zSg) : Prop := ∀ P E, rS σ a P E → (r.toInt ≠ 0 ∧ (zBl (rb σ a) E P < E ∧ rb σ a (zBl (rb σ a) E P) = c.toInt) ∧ σ' = q_rs σ a (zBl (rb σ a) E P + 1) (zBl (rb σ a) E P)) ∨ (r.toInt = 0 ∧ ¬ (zBl (rb σ a) E P < E ∧ rb σ a (zBl (rb σ a) E P) = c.toInt) ∧ σ' = q_rs σ a (zBl (rb σ a) E P) (zBl (rb σ a) E P))
theorem sp_206_et (a0 : Nat) (a1 : Int32) (σ : zSg) (τ1 : zSg) (τ2 : zSg) (r2 : Int32) (g1 : p_202 a0 σ τ1) (g2 : p_201 a0 a1 a1 τ1 r2 τ2) (h3 : r2.toInt ≠ (0 : Int)) :
    p_206 (a0) (a1) σ (Int32.ofInt (1)) (q_w τ2 a0 10 (.int ((q_i (τ2.1 a0 10)) + (Int32.ofInt (1))))) := by
  intro P E S
  have e := g1 P E S
  have hB := zBl_le (b := rb σ a0) S.2.2.2.1
  have S1 := S.rs (Q := zBl (rb σ a0) E P) hB
  rw [← e] at S1
  have hc := g2.t S1 h3
  rw [show rb τ1 a0 = rb σ a0 by rw [e]; exact rb_rs S] at hc
  have h9 : E ≤ 400 := S.2.2.2.2
  refine Or.inl ⟨by decide, ⟨hc.1, by omega⟩, ?_⟩
  rw [g2.1, e, q_rs_10]
  show q_w (q_rs σ a0 _ _) a0 10 (.int (Int32.ofNat _ + Int32.ofInt 1)) = _
  rw [o32i (by omega), q_rs_pt]
theorem sp_206_ef (a0 : Nat) (a1 : Int32) (σ : zSg) (τ1 : zSg) (τ2 : zSg) (r2 : Int32) (g1 : p_202 a0 σ τ1) (g2 : p_201 a0 a1 a1 τ1 r2 τ2) (h3 : r2.toInt = (0 : Int)) :
    p_206 (a0) (a1) σ (Int32.ofInt (0)) τ2 := by
  intro P E S
  have e := g1 P E S
  have hB := zBl_le (b := rb σ a0) S.2.2.2.1
  have S1 := S.rs (Q := zBl (rb σ a0) E P) hB
  rw [← e] at S1
  have hc := g2.f S1 h3
  rw [show rb τ1 a0 = rb σ a0 by rw [e]; exact rb_rs S] at hc
  exact Or.inr ⟨rfl, fun q => hc ⟨q.1, by omega, by omega⟩, by rw [g2.1, e]⟩
noncomputable def qP_206 : zPp := fun as σ o σ' => match as with
  | [a0, a1] => ∃ r, o = .inl (some (.int r)) ∧ p_206 (q_r a0) (q_i a1) σ r σ'
  | _ => True
set_option maxRecDepth 100000 in
theorem sp_206 {sx : zX} (S202 : zEe sx 202 1 qP_202) (S201 : zEe sx 201 3 qP_201) : zEe sx 206 2 qP_206 := by
  refine zfle zJ_206 (sps := [(202, 1, qP_202), (201, 3, qP_201)]) (fun q hq => by
    simp only [List.mem_cons, List.not_mem_nil, or_false] at hq
    rcases hq with rfl | rfl
    · exact S202
    · exact S201) (fun as σ hl => ?_)
  match as, hl with
  | [a0, a1], _ =>
  refine ⟨[], 400, ?_, ?_⟩
  · exact fun q hq => absurd hq List.not_mem_nil
  · refine fun o1 τ1 g1 => ?_
    obtain ⟨rfl, g1⟩ := g1
    refine fun o2 τ2 g2 => ?_
    obtain ⟨r2, rfl, g2⟩ := g2
    refine And.intro (fun h3 => ?_) (fun h3 => ?_)
    · exact ⟨_, rfl, sp_206_et (q_r a0) (q_i a1) σ τ1 τ2 r2 g1 g2 (cm1t h3)⟩
    · exact ⟨_, rfl, sp_206_ef (q_r a0) (q_i a1) σ τ1 τ2 r2 g1 g2 (cm1f h3)⟩
noncomputable def zDe (b : Nat → Int) (E P : Nat) : Nat := zRn b E 48 57 P
theorem zDv_in {b : Nat → Int} {E A : Nat} : ∀ n, A + n ≤ zDe b E A → 0 ≤ zDv b A n ∧ zDv b A n ≤ 1110
  | 0, _ => by unfold zDv; omega
  | 1, h => by
    have h1 := zRn_in (b := b) (E := E) (lo := 48) (hi := 57) (P := A) (k := A) (by omega) (by show A < zDe b E A; omega)
    simp only [zDv, Nat.add_zero]
    split <;> omega
  | 2, h => by
    have h1 := zRn_in (b := b) (E := E) (lo := 48) (hi := 57) (P := A) (k := A) (by omega) (by show A < zDe b E A; omega)
    have h2 := zRn_in (b := b) (E := E) (lo := 48) (hi := 57) (P := A) (k := A + 1) (by omega) (by show A + 1 < zDe b E A; omega)
    simp only [zDv, Nat.add_zero]
    split <;> split <;> omega
  | 3, h => by
    have h1 := zRn_in (b := b) (E := E) (lo := 48) (hi := 57) (P := A) (k := A) (by omega) (by show A < zDe b E A; omega)
    have h2 := zRn_in (b := b) (E := E) (lo := 48) (hi := 57) (P := A) (k := A + 1) (by omega) (by show A + 1 < zDe b E A; omega)
    have h3 := zRn_in (b := b) (E := E) (lo := 48) (hi := 57) (P := A) (k := A + 2) (by omega) (by show A + 2 < zDe b E A; omega)
    simp only [zDv, Nat.add_zero]
    split <;> split <;> split <;> omega
  | n + 4, h => by
    have := zDv_in (n + 3) (show A + (n + 3) ≤ zDe b E A by omega)
    unfold zDv
    rw [if_neg (by omega)]
    exact this
/-- the number at A: what number answers -/
noncomputable def zNm (b : Nat → Int) (E : Nat) (lo hi : Int) (A : Nat) : Int := if 1 ≤ zDe b E A - A ∧ zDe b E A - A ≤ 3 ∧ lo ≤ zDv b A (zDe b E A - A) ∧ zDv b A (zDe b E A - A) ≤ hi then zDv b A (zDe b E A - A) else -1
noncomputable def p_207 (a : Nat) (lo hi : Int32) (σ : zSg) (r : Int32) (σ' : zSg) : Prop := ∀ P E, rS σ a P E → r.toInt = zNm (rb σ a) E lo.toInt hi.toInt (zBl (rb σ a) E P) ∧ σ' = q_rs σ a (zDe (rb σ a) E (zBl (rb σ a) E P)) (zBl (rb σ a) E P)
noncomputable def i_207 (a : Nat) (lo hi : Int32) (σ : zSg) (l0 : Nat) (l1 l2 v : Int32) (τ : zSg) : Prop := l0 = a ∧ l1 = lo ∧ l2 = hi ∧ ∀ P E, rS σ a P E → ∃ K, zBl (rb σ a) E P ≤ K ∧ K ≤ E ∧ zDe (rb σ a) E (zBl (rb σ a) E P) = zDe (rb σ a) E K ∧ K ≤ zDe (rb σ a) E (zBl (rb σ a) E P) ∧ v.toInt = zDv (rb σ a) (zBl (rb σ a) E P) (K - zBl (rb σ a) E P) ∧ τ = q_rs σ a K (zBl (rb σ a) E P)
theorem sp_207_e (a0 : Nat) (a1 : Int32) (a2 : Int32) (σ : zSg) (τ1 : zSg) (g1 : p_202 a0 σ τ1) :
    i_207 a0 a1 a2 σ a0 a1 a2 (Int32.ofInt (0)) τ1 := by
  refine ⟨rfl, rfl, rfl, fun P E S => ?_⟩
  have hB := zBl_le (b := rb σ a0) S.2.2.2.1
  refine ⟨zBl (rb σ a0) E P, Nat.le_refl _, hB, rfl, zRn_ge, ?_, g1 P E S⟩
  rw [Nat.sub_self]
  rfl
theorem sp_207_c4_tt (a0 : Nat) (a1 : Int32) (a2 : Int32) (σ : zSg) (l0 : Nat) (l1 : Int32) (l2 : Int32) (l3 : Int32) (τ : zSg) (τ2 : zSg) (r2 : Int32) (hI : i_207 a0 a1 a2 σ l0 l1 l2 l3 τ) (g2 : p_201 l0 (Int32.ofInt (48)) (Int32.ofInt (57)) τ r2 τ2) (h3 : r2.toInt = (0 : Int)) (h4 : (q_i (τ2.1 l0 10)).toInt = (q_i (τ2.1 l0 12)).toInt) :
    p_207 (a0) (a1) (a2) σ (Int32.ofInt (-1)) τ2 := by
  obtain ⟨rfl, rfl, rfl, G⟩ := hI
  intro P E S
  obtain ⟨K, k0, k1, k2, k3, k4, rfl⟩ := G P E S
  have hE : E ≤ 400 := S.2.2.2.2
  have S1 := S.rs (Q := zBl (rb σ l0) E P) k1
  obtain rfl := g2.1.symm
  have hc := g2.f S1 h3
  rw [rb_rs S] at hc
  have hD : zDe (rb σ l0) E K = K := zRn_f (lo := 48) (hi := 57) hc
  rw [hD] at k2
  have hv := zDv_in (b := rb σ l0) (E := E) (A := zBl (rb σ l0) E P) (K - zBl (rb σ l0) E P) (by omega)
  refine ⟨?_, by rw [k2]⟩
  unfold zNm
  rw [k2, ← k4]
  have e1 : (Int32.ofNat K - Int32.ofNat (zBl (rb σ l0) E P)).toInt = (K : Int) - zBl (rb σ l0) E P := zI_sub (o32 (by omega)) (o32 (by omega)) (by omega) (by omega)
  have e2 : (Int32.ofNat K).toInt = (K : Int) := o32 (by omega)
  have e3 : (Int32.ofNat (zBl (rb σ l0) E P)).toInt = ((zBl (rb σ l0) E P : Nat) : Int) := o32 (by omega)
  have E4 : (Int32.ofNat K).toInt = (Int32.ofNat (zBl (rb σ l0) E P)).toInt := by
    have h9 := h4
    rw [q_rs_10, q_rs_12] at h9
    exact h9
  rw [e2, e3] at E4
  rw [if_neg (by omega)]
  rfl
theorem sp_207_c4_tft (a0 : Nat) (a1 : Int32) (a2 : Int32) (σ : zSg) (l0 : Nat) (l1 : Int32) (l2 : Int32) (l3 : Int32) (τ : zSg) (τ2 : zSg) (r2 : Int32) (hI : i_207 a0 a1 a2 σ l0 l1 l2 l3 τ) (g2 : p_201 l0 (Int32.ofInt (48)) (Int32.ofInt (57)) τ r2 τ2) (h3 : r2.toInt = (0 : Int)) (h4 : (q_i (τ2.1 l0 10)).toInt ≠ (q_i (τ2.1 l0 12)).toInt) (h5 : ((q_i (τ2.1 l0 10)) - (q_i (τ2.1 l0 12))).toInt > (3 : Int)) :
    p_207 (a0) (a1) (a2) σ (Int32.ofInt (-1)) τ2 := by
  obtain ⟨rfl, rfl, rfl, G⟩ := hI
  intro P E S
  obtain ⟨K, k0, k1, k2, k3, k4, rfl⟩ := G P E S
  have hE : E ≤ 400 := S.2.2.2.2
  have S1 := S.rs (Q := zBl (rb σ l0) E P) k1
  obtain rfl := g2.1.symm
  have hc := g2.f S1 h3
  rw [rb_rs S] at hc
  have hD : zDe (rb σ l0) E K = K := zRn_f (lo := 48) (hi := 57) hc
  rw [hD] at k2
  have hv := zDv_in (b := rb σ l0) (E := E) (A := zBl (rb σ l0) E P) (K - zBl (rb σ l0) E P) (by omega)
  refine ⟨?_, by rw [k2]⟩
  unfold zNm
  rw [k2, ← k4]
  have e1 : (Int32.ofNat K - Int32.ofNat (zBl (rb σ l0) E P)).toInt = (K : Int) - zBl (rb σ l0) E P := zI_sub (o32 (by omega)) (o32 (by omega)) (by omega) (by omega)
  have e2 : (Int32.ofNat K).toInt = (K : Int) := o32 (by omega)
  have e3 : (Int32.ofNat (zBl (rb σ l0) E P)).toInt = ((zBl (rb σ l0) E P : Nat) : Int) := o32 (by omega)
  have E4 : (Int32.ofNat K).toInt ≠ (Int32.ofNat (zBl (rb σ l0) E P)).toInt := by
    have h9 := h4
    rw [q_rs_10, q_rs_12] at h9
    exact h9
  rw [e2, e3] at E4
  have E5 : (Int32.ofNat K - Int32.ofNat (zBl (rb σ l0) E P)).toInt > 3 := by
    have h9 := h5
    rw [q_rs_10, q_rs_12] at h9
    exact h9
  rw [e1] at E5
  rw [if_neg (by omega)]
  rfl
theorem sp_207_c4_tfft (a0 : Nat) (a1 : Int32) (a2 : Int32) (σ : zSg) (l0 : Nat) (l1 : Int32) (l2 : Int32) (l3 : Int32) (τ : zSg) (τ2 : zSg) (r2 : Int32) (hI : i_207 a0 a1 a2 σ l0 l1 l2 l3 τ) (g2 : p_201 l0 (Int32.ofInt (48)) (Int32.ofInt (57)) τ r2 τ2) (h3 : r2.toInt = (0 : Int)) (h4 : (q_i (τ2.1 l0 10)).toInt ≠ (q_i (τ2.1 l0 12)).toInt) (h5 : ((q_i (τ2.1 l0 10)) - (q_i (τ2.1 l0 12))).toInt ≤ (3 : Int)) (h6 : l3.toInt < l1.toInt) :
    p_207 (a0) (a1) (a2) σ (Int32.ofInt (-1)) τ2 := by
  obtain ⟨rfl, rfl, rfl, G⟩ := hI
  intro P E S
  obtain ⟨K, k0, k1, k2, k3, k4, rfl⟩ := G P E S
  have hE : E ≤ 400 := S.2.2.2.2
  have S1 := S.rs (Q := zBl (rb σ l0) E P) k1
  obtain rfl := g2.1.symm
  have hc := g2.f S1 h3
  rw [rb_rs S] at hc
  have hD : zDe (rb σ l0) E K = K := zRn_f (lo := 48) (hi := 57) hc
  rw [hD] at k2
  have hv := zDv_in (b := rb σ l0) (E := E) (A := zBl (rb σ l0) E P) (K - zBl (rb σ l0) E P) (by omega)
  refine ⟨?_, by rw [k2]⟩
  unfold zNm
  rw [k2, ← k4]
  have e1 : (Int32.ofNat K - Int32.ofNat (zBl (rb σ l0) E P)).toInt = (K : Int) - zBl (rb σ l0) E P := zI_sub (o32 (by omega)) (o32 (by omega)) (by omega) (by omega)
  have e2 : (Int32.ofNat K).toInt = (K : Int) := o32 (by omega)
  have e3 : (Int32.ofNat (zBl (rb σ l0) E P)).toInt = ((zBl (rb σ l0) E P : Nat) : Int) := o32 (by omega)
  have E4 : (Int32.ofNat K).toInt ≠ (Int32.ofNat (zBl (rb σ l0) E P)).toInt := by
    have h9 := h4
    rw [q_rs_10, q_rs_12] at h9
    exact h9
  rw [e2, e3] at E4
  have E5 : (Int32.ofNat K - Int32.ofNat (zBl (rb σ l0) E P)).toInt ≤ 3 := by
    have h9 := h5
    rw [q_rs_10, q_rs_12] at h9
    exact h9
  rw [e1] at E5
  rw [if_neg (by omega)]
  rfl
theorem sp_207_c4_tffft (a0 : Nat) (a1 : Int32) (a2 : Int32) (σ : zSg) (l0 : Nat) (l1 : Int32) (l2 : Int32) (l3 : Int32) (τ : zSg) (τ2 : zSg) (r2 : Int32) (hI : i_207 a0 a1 a2 σ l0 l1 l2 l3 τ) (g2 : p_201 l0 (Int32.ofInt (48)) (Int32.ofInt (57)) τ r2 τ2) (h3 : r2.toInt = (0 : Int)) (h4 : (q_i (τ2.1 l0 10)).toInt ≠ (q_i (τ2.1 l0 12)).toInt) (h5 : ((q_i (τ2.1 l0 10)) - (q_i (τ2.1 l0 12))).toInt ≤ (3 : Int)) (h6 : l3.toInt ≥ l1.toInt) (h7 : l3.toInt ≤ l2.toInt) :
    p_207 (a0) (a1) (a2) σ l3 τ2 := by
  obtain ⟨rfl, rfl, rfl, G⟩ := hI
  intro P E S
  obtain ⟨K, k0, k1, k2, k3, k4, rfl⟩ := G P E S
  have hE : E ≤ 400 := S.2.2.2.2
  have S1 := S.rs (Q := zBl (rb σ l0) E P) k1
  obtain rfl := g2.1.symm
  have hc := g2.f S1 h3
  rw [rb_rs S] at hc
  have hD : zDe (rb σ l0) E K = K := zRn_f (lo := 48) (hi := 57) hc
  rw [hD] at k2
  have hv := zDv_in (b := rb σ l0) (E := E) (A := zBl (rb σ l0) E P) (K - zBl (rb σ l0) E P) (by omega)
  refine ⟨?_, by rw [k2]⟩
  unfold zNm
  rw [k2, ← k4]
  have e1 : (Int32.ofNat K - Int32.ofNat (zBl (rb σ l0) E P)).toInt = (K : Int) - zBl (rb σ l0) E P := zI_sub (o32 (by omega)) (o32 (by omega)) (by omega) (by omega)
  have e2 : (Int32.ofNat K).toInt = (K : Int) := o32 (by omega)
  have e3 : (Int32.ofNat (zBl (rb σ l0) E P)).toInt = ((zBl (rb σ l0) E P : Nat) : Int) := o32 (by omega)
  have E4 : (Int32.ofNat K).toInt ≠ (Int32.ofNat (zBl (rb σ l0) E P)).toInt := by
    have h9 := h4
    rw [q_rs_10, q_rs_12] at h9
    exact h9
  rw [e2, e3] at E4
  have E5 : (Int32.ofNat K - Int32.ofNat (zBl (rb σ l0) E P)).toInt ≤ 3 := by
    have h9 := h5
    rw [q_rs_10, q_rs_12] at h9
    exact h9
  rw [e1] at E5
  rw [if_pos (by omega)]
theorem sp_207_c4_tffff (a0 : Nat) (a1 : Int32) (a2 : Int32) (σ : zSg) (l0 : Nat) (l1 : Int32) (l2 : Int32) (l3 : Int32) (τ : zSg) (τ2 : zSg) (r2 : Int32) (hI : i_207 a0 a1 a2 σ l0 l1 l2 l3 τ) (g2 : p_201 l0 (Int32.ofInt (48)) (Int32.ofInt (57)) τ r2 τ2) (h3 : r2.toInt = (0 : Int)) (h4 : (q_i (τ2.1 l0 10)).toInt ≠ (q_i (τ2.1 l0 12)).toInt) (h5 : ((q_i (τ2.1 l0 10)) - (q_i (τ2.1 l0 12))).toInt ≤ (3 : Int)) (h6 : l3.toInt ≥ l1.toInt) (h7 : l3.toInt > l2.toInt) :
    p_207 (a0) (a1) (a2) σ (Int32.ofInt (-1)) τ2 := by
  obtain ⟨rfl, rfl, rfl, G⟩ := hI
  intro P E S
  obtain ⟨K, k0, k1, k2, k3, k4, rfl⟩ := G P E S
  have hE : E ≤ 400 := S.2.2.2.2
  have S1 := S.rs (Q := zBl (rb σ l0) E P) k1
  obtain rfl := g2.1.symm
  have hc := g2.f S1 h3
  rw [rb_rs S] at hc
  have hD : zDe (rb σ l0) E K = K := zRn_f (lo := 48) (hi := 57) hc
  rw [hD] at k2
  have hv := zDv_in (b := rb σ l0) (E := E) (A := zBl (rb σ l0) E P) (K - zBl (rb σ l0) E P) (by omega)
  refine ⟨?_, by rw [k2]⟩
  unfold zNm
  rw [k2, ← k4]
  have e1 : (Int32.ofNat K - Int32.ofNat (zBl (rb σ l0) E P)).toInt = (K : Int) - zBl (rb σ l0) E P := zI_sub (o32 (by omega)) (o32 (by omega)) (by omega) (by omega)
  have e2 : (Int32.ofNat K).toInt = (K : Int) := o32 (by omega)
  have e3 : (Int32.ofNat (zBl (rb σ l0) E P)).toInt = ((zBl (rb σ l0) E P : Nat) : Int) := o32 (by omega)
  have E4 : (Int32.ofNat K).toInt ≠ (Int32.ofNat (zBl (rb σ l0) E P)).toInt := by
    have h9 := h4
    rw [q_rs_10, q_rs_12] at h9
    exact h9
  rw [e2, e3] at E4
  have E5 : (Int32.ofNat K - Int32.ofNat (zBl (rb σ l0) E P)).toInt ≤ 3 := by
    have h9 := h5
    rw [q_rs_10, q_rs_12] at h9
    exact h9
  rw [e1] at E5
  rw [if_neg (by omega)]
  rfl
theorem sp_207_c4_ft (a0 : Nat) (a1 : Int32) (a2 : Int32) (σ : zSg) (l0 : Nat) (l1 : Int32) (l2 : Int32) (l3 : Int32) (τ : zSg) (τ2 : zSg) (r2 : Int32) (hI : i_207 a0 a1 a2 σ l0 l1 l2 l3 τ) (g2 : p_201 l0 (Int32.ofInt (48)) (Int32.ofInt (57)) τ r2 τ2) (h3 : r2.toInt ≠ (0 : Int)) (h8 : ((q_i (τ2.1 l0 10)) - (q_i (τ2.1 l0 12))).toInt ≥ (3 : Int)) :
    i_207 a0 a1 a2 σ l0 l1 l2 l3 (q_w τ2 l0 10 (.int ((q_i (τ2.1 l0 10)) + (Int32.ofInt (1))))) := by
  obtain ⟨rfl, rfl, rfl, G⟩ := hI
  refine ⟨rfl, rfl, rfl, fun P E S => ?_⟩
  obtain ⟨K, k0, k1, k2, k3, k4, rfl⟩ := G P E S
  have hE : E ≤ 400 := S.2.2.2.2
  have S1 := S.rs (Q := zBl (rb σ l0) E P) k1
  obtain rfl := g2.1.symm
  have hc := g2.t S1 h3
  rw [rb_rs S] at hc
  have hD : zDe (rb σ l0) E K = zDe (rb σ l0) E (K + 1) := zRn_t (lo := 48) (hi := 57) hc
  have hK : K + 1 ≤ zDe (rb σ l0) E (zBl (rb σ l0) E P) := by rw [k2, hD]; exact zRn_ge
  refine ⟨K + 1, by omega, by omega, k2.trans hD, hK, ?_, ?_⟩
  · rw [show K + 1 - zBl (rb σ l0) E P = (K - zBl (rb σ l0) E P) + 1 by omega]
    rw [q_rs_10, q_rs_12] at h8
    have e1 : (Int32.ofNat K - Int32.ofNat (zBl (rb σ l0) E P)).toInt = (K : Int) - zBl (rb σ l0) E P := zI_sub (o32 (by omega)) (o32 (by omega)) (by omega) (by omega)
    have HC1 : (Int32.ofNat K - Int32.ofNat (zBl (rb σ l0) E P)).toInt ≥ 3 := h8
    rw [e1] at HC1
    unfold zDv
    rw [if_neg (by omega)]
    exact k4
  · rw [q_rs_10]
    show q_w (q_rs σ l0 K _) l0 10 (.int (Int32.ofNat K + Int32.ofInt 1)) = _
    rw [o32i (by omega), q_rs_pt]
theorem sp_207_c4_ff (a0 : Nat) (a1 : Int32) (a2 : Int32) (σ : zSg) (l0 : Nat) (l1 : Int32) (l2 : Int32) (l3 : Int32) (τ : zSg) (τ2 : zSg) (r2 : Int32) (hI : i_207 a0 a1 a2 σ l0 l1 l2 l3 τ) (g2 : p_201 l0 (Int32.ofInt (48)) (Int32.ofInt (57)) τ r2 τ2) (h3 : r2.toInt ≠ (0 : Int)) (h8 : ((q_i (τ2.1 l0 10)) - (q_i (τ2.1 l0 12))).toInt < (3 : Int)) (h9 : 0 ≤ (q_i (τ2.1 l0 10)).toInt ∧ (q_i (τ2.1 l0 10)).toInt < (τ2.2.1 (q_r (τ2.1 l0 8)) : Int)) :
    i_207 a0 a1 a2 σ l0 l1 l2 ((((Int32.ofInt (10)) * l3) + (q_i (τ2.1 (q_r (τ2.1 l0 8)) (q_i (τ2.1 l0 10)).toNatClampNeg))) - (Int32.ofInt (48))) (q_w τ2 l0 10 (.int ((q_i (τ2.1 l0 10)) + (Int32.ofInt (1))))) := by
  obtain ⟨rfl, rfl, rfl, G⟩ := hI
  refine ⟨rfl, rfl, rfl, fun P E S => ?_⟩
  obtain ⟨K, k0, k1, k2, k3, k4, rfl⟩ := G P E S
  have hE : E ≤ 400 := S.2.2.2.2
  have S1 := S.rs (Q := zBl (rb σ l0) E P) k1
  obtain rfl := g2.1.symm
  have hc := g2.t S1 h3
  rw [rb_rs S] at hc
  have hD : zDe (rb σ l0) E K = zDe (rb σ l0) E (K + 1) := zRn_t (lo := 48) (hi := 57) hc
  have hK : K + 1 ≤ zDe (rb σ l0) E (zBl (rb σ l0) E P) := by rw [k2, hD]; exact zRn_ge
  refine ⟨K + 1, by omega, by omega, k2.trans hD, hK, ?_, ?_⟩
  · rw [show K + 1 - zBl (rb σ l0) E P = (K - zBl (rb σ l0) E P) + 1 by omega]
    rw [q_rs_10, q_rs_12] at h8
    have e1 : (Int32.ofNat K - Int32.ofNat (zBl (rb σ l0) E P)).toInt = (K : Int) - zBl (rb σ l0) E P := zI_sub (o32 (by omega)) (o32 (by omega)) (by omega) (by omega)
    have HC1 : (Int32.ofNat K - Int32.ofNat (zBl (rb σ l0) E P)).toInt < 3 := h8
    rw [e1] at HC1
    unfold zDv
    rw [if_pos (by omega), show zBl (rb σ l0) E P + (K - zBl (rb σ l0) E P) = K by omega]
    have hv := zDv_in (b := rb σ l0) (E := E) (A := zBl (rb σ l0) E P) (K - zBl (rb σ l0) E P) (by omega)
    have hx : (q_i ((q_rs σ l0 K (zBl (rb σ l0) E P)).1 (q_r ((q_rs σ l0 K (zBl (rb σ l0) E P)).1 l0 8)) (q_i ((q_rs σ l0 K (zBl (rb σ l0) E P)).1 l0 10)).toNatClampNeg)).toInt = rb σ l0 K := by
      rw [q_rs_10]
      show (q_i ((q_rs σ l0 K (zBl (rb σ l0) E P)).1 (q_r ((q_rs σ l0 K (zBl (rb σ l0) E P)).1 l0 8)) (Int32.ofNat K).toNatClampNeg)).toInt = rb σ l0 K
      rw [o32n (by omega)]
      exact congrFun (rb_rs (K := K) (Q := zBl (rb σ l0) E P) S) K
    have m1 : (Int32.ofInt 10 * l3).toInt = 10 * l3.toInt := by
      rw [Int32.toInt_mul, zI_c (by omega) (by omega)]
      exact z_bm (by omega) (by omega)
    have hb9 := hc.2
    have c48 : (Int32.ofInt 48).toInt = 48 := rfl
    have c57 : (Int32.ofInt 57).toInt = 57 := rfl
    rw [zI_sub (zI_add m1 hx (by omega) (by omega)) c48 (by omega) (by omega), k4]
  · rw [q_rs_10]
    show q_w (q_rs σ l0 K _) l0 10 (.int (Int32.ofNat K + Int32.ofInt 1)) = _
    rw [o32i (by omega), q_rs_pt]
noncomputable def qP_207 : zPp := fun as σ o σ' => match as with
  | [a0, a1, a2] => ∃ r, o = .inl (some (.int r)) ∧ p_207 (q_r a0) (q_i a1) (q_i a2) σ r σ'
  | _ => True
set_option maxRecDepth 100000 in
theorem sp_207 {sx : zX} (S202 : zEe sx 202 1 qP_202) (S201 : zEe sx 201 3 qP_201) : zEe sx 207 3 qP_207 := by
  refine zfle zJ_207 (sps := [(202, 1, qP_202), (201, 3, qP_201)]) (fun q hq => by
    simp only [List.mem_cons, List.not_mem_nil, or_false] at hq
    rcases hq with rfl | rfl
    · exact S202
    · exact S201) (fun as σ hl => ?_)
  match as, hl with
  | [a0, a1, a2], _ =>
  refine ⟨[(4, fun lo st τ => st = [] ∧ i_207 (q_r a0) (q_i a1) (q_i a2) σ (q_r (lo 0)) (q_i (lo 1)) (q_i (lo 2)) (q_i (lo 3)) τ)], 400, ?_, ?_⟩
  · intro q hq
    simp only [List.mem_cons, List.not_mem_nil, or_false] at hq
    rcases hq with rfl
    · rintro lo st τ ⟨rfl, hI⟩
      refine ⟨400, ?_⟩
      refine fun o2 τ2 g2 => ?_
      obtain ⟨r2, rfl, g2⟩ := g2
      refine And.intro (fun h3 => ?_) (fun h3 => ?_)
      · refine And.intro (fun h4 => ?_) (fun h4 => ?_)
        · exact ⟨_, rfl, sp_207_c4_tt (q_r a0) (q_i a1) (q_i a2) σ (q_r (lo 0)) (q_i (lo 1)) (q_i (lo 2)) (q_i (lo 3)) τ τ2 r2 hI g2 (cm0t h3) (cm0t h4)⟩
        · refine And.intro (fun h5 => ?_) (fun h5 => ?_)
          · exact ⟨_, rfl, sp_207_c4_tft (q_r a0) (q_i a1) (q_i a2) σ (q_r (lo 0)) (q_i (lo 1)) (q_i (lo 2)) (q_i (lo 3)) τ τ2 r2 hI g2 (cm0t h3) (cm0f h4) (cm4t h5)⟩
          · refine And.intro (fun h6 => ?_) (fun h6 => ?_)
            · exact ⟨_, rfl, sp_207_c4_tfft (q_r a0) (q_i a1) (q_i a2) σ (q_r (lo 0)) (q_i (lo 1)) (q_i (lo 2)) (q_i (lo 3)) τ τ2 r2 hI g2 (cm0t h3) (cm0f h4) (cm4f h5) (cm2t h6)⟩
            · refine And.intro (fun h7 => ?_) (fun h7 => ?_)
              · exact ⟨_, rfl, sp_207_c4_tffft (q_r a0) (q_i a1) (q_i a2) σ (q_r (lo 0)) (q_i (lo 1)) (q_i (lo 2)) (q_i (lo 3)) τ τ2 r2 hI g2 (cm0t h3) (cm0f h4) (cm4f h5) (cm2f h6) (cm5t h7)⟩
              · exact ⟨_, rfl, sp_207_c4_tffff (q_r a0) (q_i a1) (q_i a2) σ (q_r (lo 0)) (q_i (lo 1)) (q_i (lo 2)) (q_i (lo 3)) τ τ2 r2 hI g2 (cm0t h3) (cm0f h4) (cm4f h5) (cm2f h6) (cm5f h7)⟩
      · refine And.intro (fun h8 => ?_) (fun h8 => ?_)
        · exact ⟨rfl, sp_207_c4_ft (q_r a0) (q_i a1) (q_i a2) σ (q_r (lo 0)) (q_i (lo 1)) (q_i (lo 2)) (q_i (lo 3)) τ τ2 r2 hI g2 (cm0f h3) (cm3t h8)⟩
        · refine fun h9 => ?_
          exact ⟨rfl, sp_207_c4_ff (q_r a0) (q_i a1) (q_i a2) σ (q_r (lo 0)) (q_i (lo 1)) (q_i (lo 2)) (q_i (lo 3)) τ τ2 r2 hI g2 (cm0f h3) (cm3f h8) (q_inp h9)⟩
  · refine fun o1 τ1 g1 => ?_
    obtain ⟨rfl, g1⟩ := g1
    exact ⟨rfl, sp_207_e (q_r a0) (q_i a1) (q_i a2) σ τ1 g1⟩
end
