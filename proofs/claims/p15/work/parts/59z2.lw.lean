/-! the law's cases 12 to 23; printed with wip/gen/gen_law.py -/
set_option maxRecDepth 100000 in
theorem zcs_12 {sx : zX} {d : Nat} {ty : List Nat} {lo : zL} {h : zH} {Ψ : zO → zH → Nat → Nat → Prop} {ax am ao i : Nat} {N : Int} (H : ∀ (c : Nat) (c' : zCt), zCtl[c]? = some c' → zVd z_tt zE1 c') (hd : 60 ≤ d) (hi : i + 6 ≤ sx.1) (hL : sx.1 ≤ 3072) (hB : h.length + 6 ≤ zB) (I : zIw ty h ax am ao N) (Lv : zLv lo ax am ao i) (K : zKc sx d ax am ao i h Ψ) : z_ok sx d 343 318 lo [] h Ψ := by
  refine zh_ald zJ_343 (k' := 319) (zQf (k := 318) 30 zQd_9 rfl rfl) rfl Lv.2.1 ?_
  refine zscr 319 320 321 322 323 324 1 (zQf (k := 319) 31 zQd_9 rfl rfl) (zQf (k := 320) 0 zQd_10 rfl rfl) (zQf (k := 321) 1 zQd_10 rfl rfl) (zQf (k := 322) 2 zQd_10 rfl rfl) (zQf (k := 323) 3 zQd_10 rfl rfl) rfl rfl rfl rfl rfl rfl (by omega) Lv hi hL (fun v0 ev0 => ?_)
  refine zh_ald zJ_343 (k' := 325) (zQf (k := 324) 4 zQd_10 rfl rfl) rfl Lv.2.2.2.1 ?_
  refine zlcq (ct := zC283) (as := [.ref ax, .int v0, .ref ao]) (i := (72, 324, 3, 0)) I.v (zQf (k := 325) 5 zQd_10 rfl rfl) (k' := 326) rfl (by decide) (zcal72 (xs := [.ref ao, .int v0, .ref ax]) (rest := []) (by omega) rfl rfl (Nat.le_of_ble_eq_true rfl) (M' := z_m324) rfl (Nat.le_of_ble_eq_true rfl)) (H 283 _ rfl) rfl (by show 10 + 1 ≤ d; omega) rfl (by decide +kernel) (by decide +kernel) (by decide +kernel) ⟨⟨ax, 1, rfl, I.2.2.1, Int.le_refl _, Int.le_refl _⟩, zFull_ok _, ⟨ao, 33, rfl, I.2.2.2.2.1, Int.le_refl _, Int.le_refl _⟩, trivial⟩ sq_324 rfl (fun ty1 h1 w1 x1 y1 I1 V1 G1 cx1 cy1 l1 => ?_)
  have cx1 : x1 ≤ 1 := cx1
  have cy1 : y1 ≤ 6 := cy1
  match w1, V1, G1 with
  | some w1, V1, G1 =>
  obtain ⟨c1, rfl, -⟩ := V1
  have G1 : p_324 ax v0 ao (za h) c1 (za h1) := by
    obtain ⟨r9, er9, g9⟩ := G1
    have er9 : r9 = c1 := by cases er9; rfl
    rw [er9] at g9
    exact g9
  show z_ok sx d 343 326 lo [.int c1] h1 _
  refine zh_ist zJ_343 (a := 5) (b := 0) (z := 0) (zQf (k := 326) 6 zQd_10 rfl rfl) (k' := 327) rfl ?_
  refine zh_ald zJ_343 (k' := 328) (zQf (k := 327) 7 zQd_10 rfl rfl) rfl (Lv.set (b := 5) (v := c1) (by omega)).2.2.1 ?_
  refine zscr 328 329 330 331 332 333 1 (zQf (k := 328) 8 zQd_10 rfl rfl) (zQf (k := 329) 9 zQd_10 rfl rfl) (zQf (k := 330) 10 zQd_10 rfl rfl) (zQf (k := 331) 11 zQd_10 rfl rfl) (zQf (k := 332) 12 zQd_10 rfl rfl) rfl rfl rfl rfl rfl rfl (by omega) (Lv.set (b := 5) (v := c1) (by omega)) hi hL (fun v1 ev1 => ?_)
  obtain ⟨fs1, he1, -⟩ := zcell0 (c := 9) (n := 23) I1.1 I1.2.2.2.1 rfl rfl rfl
  refine zlcq (ct := zC189) (as := [.ref am, .int v1]) (i := (54, 256, 1, 9)) I1 (zQf (k := 333) 13 zQd_10 rfl rfl) (k' := 334) rfl (by decide) (zcal54 (xs := [.int v1]) (rest := []) (by omega) rfl rfl he1 rfl (Nat.le_of_ble_eq_true rfl) (M' := z_m256) rfl (Nat.le_of_ble_eq_true rfl)) (H 189 _ rfl) rfl (by show 2 + 1 ≤ d; omega) rfl (by decide +kernel) (by decide +kernel) (by decide +kernel) ⟨⟨am, 20, rfl, I1.2.2.2.1, Int.le_refl _, Int.le_refl _⟩, zFull_ok _, trivial⟩ sq_256 rfl (fun ty2 h2 w2 x2 y2 I2 V2 G2 cx2 cy2 l2 => ?_)
  have cx2 : x2 ≤ 0 := cx2
  have cy2 : y2 ≤ 0 := cy2
  match w2, V2, G2 with
  | some w2, V2, G2 =>
  obtain ⟨c2, rfl, -⟩ := V2
  have G2 : p_256 am v1 (za h1) c2 (za h2) := by
    obtain ⟨r9, er9, g9⟩ := G2
    have er9 : r9 = c2 := by cases er9; rfl
    rw [er9] at g9
    exact g9
  have ee0 : v1 = v0 := by rw [ev1, ev0]
  rw [ee0] at G2
  have Z2 : zHld (za h2) ∧ zLik (za h2) c1 c2 := by
    obtain ⟨⟨rfl, rfl, rfl⟩, -⟩ := I.lx
    obtain ⟨p0, w0, K0, R0⟩ := I.hd
    exact zq_12 w0 K0 R0 G1 G2
  have I2 := I2.w Z2.1
  have GE : ∃ t : Int32, zv h2 am 0 = .int t ∧ t.toInt = c1.toInt ∧ (c1.toInt = 0 → zv h2 ao 0 = .long c2.toInt64) := by
    obtain ⟨⟨rfl, rfl, rfl⟩, -⟩ := I.lx
    exact Z2.2
  have zx2 : x2 = 0 := by omega
  have zy2 : y2 = 0 := by omega
  subst zx2
  subst zy2
  show z_ok sx d 343 334 (z_set1 lo 5 (.int c1)) [.int c2] h2 _
  refine zh_ist zJ_343 (a := 6) (b := 0) (z := 0) (zQf (k := 334) 14 zQd_10 rfl rfl) (k' := 335) rfl ?_
  refine zgoto (zQf (k := 335) 15 zQd_10 rfl rfl) ?_
  exact K.use I2 ((Lv.set (b := 5) (v := c1) (by omega)).set (b := 6) (v := c2) (by omega)) (by omega) (by omega) (by omega)
set_option maxRecDepth 100000 in
theorem zcs_13 {sx : zX} {d : Nat} {ty : List Nat} {lo : zL} {h : zH} {Ψ : zO → zH → Nat → Nat → Prop} {ax am ao i : Nat} {N : Int} (H : ∀ (c : Nat) (c' : zCt), zCtl[c]? = some c' → zVd z_tt zE1 c') (hd : 60 ≤ d) (hi : i + 6 ≤ sx.1) (hL : sx.1 ≤ 3072) (hB : h.length + 6 ≤ zB) (I : zIw ty h ax am ao N) (Lv : zLv lo ax am ao i) (K : zKc sx d ax am ao i h Ψ) : z_ok sx d 343 336 lo [] h Ψ := by
  refine zh_ald zJ_343 (k' := 337) (zQf (k := 336) 16 zQd_10 rfl rfl) rfl Lv.2.1 ?_
  refine zscr 337 338 339 340 341 342 1 (zQf (k := 337) 17 zQd_10 rfl rfl) (zQf (k := 338) 18 zQd_10 rfl rfl) (zQf (k := 339) 19 zQd_10 rfl rfl) (zQf (k := 340) 20 zQd_10 rfl rfl) (zQf (k := 341) 21 zQd_10 rfl rfl) rfl rfl rfl rfl rfl rfl (by omega) Lv hi hL (fun v0 ev0 => ?_)
  refine zh_ald zJ_343 (k' := 343) (zQf (k := 342) 22 zQd_10 rfl rfl) rfl Lv.2.2.2.1 ?_
  refine zlcq (ct := zC284) (as := [.ref ax, .int v0, .ref ao]) (i := (72, 325, 3, 0)) I.v (zQf (k := 343) 23 zQd_10 rfl rfl) (k' := 344) rfl (by decide) (zcal72 (xs := [.ref ao, .int v0, .ref ax]) (rest := []) (by omega) rfl rfl (Nat.le_of_ble_eq_true rfl) (M' := z_m325) rfl (Nat.le_of_ble_eq_true rfl)) (H 284 _ rfl) rfl (by show 10 + 1 ≤ d; omega) rfl (by decide +kernel) (by decide +kernel) (by decide +kernel) ⟨⟨ax, 1, rfl, I.2.2.1, Int.le_refl _, Int.le_refl _⟩, zFull_ok _, ⟨ao, 33, rfl, I.2.2.2.2.1, Int.le_refl _, Int.le_refl _⟩, trivial⟩ sq_325 rfl (fun ty1 h1 w1 x1 y1 I1 V1 G1 cx1 cy1 l1 => ?_)
  have cx1 : x1 ≤ 1 := cx1
  have cy1 : y1 ≤ 6 := cy1
  match w1, V1, G1 with
  | some w1, V1, G1 =>
  obtain ⟨c1, rfl, -⟩ := V1
  have G1 : p_325 ax v0 ao (za h) c1 (za h1) := by
    obtain ⟨r9, er9, g9⟩ := G1
    have er9 : r9 = c1 := by cases er9; rfl
    rw [er9] at g9
    exact g9
  show z_ok sx d 343 344 lo [.int c1] h1 _
  refine zh_ist zJ_343 (a := 5) (b := 0) (z := 0) (zQf (k := 344) 24 zQd_10 rfl rfl) (k' := 345) rfl ?_
  refine zh_ald zJ_343 (k' := 346) (zQf (k := 345) 25 zQd_10 rfl rfl) rfl (Lv.set (b := 5) (v := c1) (by omega)).2.2.1 ?_
  refine zscr 346 347 348 349 350 351 1 (zQf (k := 346) 26 zQd_10 rfl rfl) (zQf (k := 347) 27 zQd_10 rfl rfl) (zQf (k := 348) 28 zQd_10 rfl rfl) (zQf (k := 349) 29 zQd_10 rfl rfl) (zQf (k := 350) 30 zQd_10 rfl rfl) rfl rfl rfl rfl rfl rfl (by omega) (Lv.set (b := 5) (v := c1) (by omega)) hi hL (fun v1 ev1 => ?_)
  obtain ⟨fs1, he1, -⟩ := zcell0 (c := 9) (n := 23) I1.1 I1.2.2.2.1 rfl rfl rfl
  refine zlcq (ct := zC192) (as := [.ref am, .int v1]) (i := (54, 258, 1, 9)) I1 (zQf (k := 351) 31 zQd_10 rfl rfl) (k' := 352) rfl (by decide) (zcal54 (xs := [.int v1]) (rest := []) (by omega) rfl rfl he1 rfl (Nat.le_of_ble_eq_true rfl) (M' := z_m258) rfl (Nat.le_of_ble_eq_true rfl)) (H 192 _ rfl) rfl (by show 5 + 1 ≤ d; omega) rfl (by decide +kernel) (by decide +kernel) (by decide +kernel) ⟨⟨am, 20, rfl, I1.2.2.2.1, Int.le_refl _, Int.le_refl _⟩, zFull_ok _, trivial⟩ sq_258 rfl (fun ty2 h2 w2 x2 y2 I2 V2 G2 cx2 cy2 l2 => ?_)
  have cx2 : x2 ≤ 0 := cx2
  have cy2 : y2 ≤ 0 := cy2
  match w2, V2, G2 with
  | some w2, V2, G2 =>
  obtain ⟨c2, rfl, -⟩ := V2
  have G2 : p_258 am v1 (za h1) c2 (za h2) := by
    obtain ⟨r9, er9, g9⟩ := G2
    have er9 : r9 = c2 := by cases er9; rfl
    rw [er9] at g9
    exact g9
  have ee0 : v1 = v0 := by rw [ev1, ev0]
  rw [ee0] at G2
  have Z2 : zHld (za h2) ∧ zLik (za h2) c1 c2 := by
    obtain ⟨⟨rfl, rfl, rfl⟩, -⟩ := I.lx
    obtain ⟨p0, w0, K0, R0⟩ := I.hd
    exact zq_13 w0 K0 R0 G1 G2
  have I2 := I2.w Z2.1
  have GE : ∃ t : Int32, zv h2 am 0 = .int t ∧ t.toInt = c1.toInt ∧ (c1.toInt = 0 → zv h2 ao 0 = .long c2.toInt64) := by
    obtain ⟨⟨rfl, rfl, rfl⟩, -⟩ := I.lx
    exact Z2.2
  have zx2 : x2 = 0 := by omega
  have zy2 : y2 = 0 := by omega
  subst zx2
  subst zy2
  show z_ok sx d 343 352 (z_set1 lo 5 (.int c1)) [.int c2] h2 _
  refine zh_ist zJ_343 (a := 6) (b := 0) (z := 0) (zQf (k := 352) 0 zQd_11 rfl rfl) (k' := 353) rfl ?_
  refine zh_ald zJ_343 (k' := 354) (zQf (k := 353) 1 zQd_11 rfl rfl) rfl ((Lv.set (b := 5) (v := c1) (by omega)).set (b := 6) (v := c2) (by omega)).2.2.1 ?_
  obtain ⟨fs9, he9, hn9⟩ := zcell0 (c := 9) (n := 23) I2.1 I2.2.2.2.1 rfl rfl rfl
  obtain ⟨t9, et9, ec9, el9⟩ := GE
  have ft9 : fs9[0]? = some (.int t9) := by
    rw [zv_at he9] at et9
    have e9 : z_rd (.inr (9, fs9)) 0 = fs9[0]? := rfl
    rw [e9, List.getElem?_eq_getElem (by omega)] at et9
    rw [List.getElem?_eq_getElem (by omega)]
    exact congrArg some et9
  refine zlrun (as := [.ref am]) (i := (54, 344, 0, 9)) (zQf (k := 354) 2 zQd_11 rfl rfl) (k' := 355) rfl (by decide) (zcal54 (xs := []) (rest := []) (by omega) rfl rfl he9 rfl (Nat.le_of_ble_eq_true rfl) (M' := z_m344) rfl (Nat.le_of_ble_eq_true rfl)) (zthr he9 ft9) (fun o3 h3 x3 y3 q3 l3 => ?_)
  obtain ⟨rfl, e3, rfl, rfl⟩ := q3
  have e3 := e3.symm
  subst e3
  refine ⟨_, rfl, ?_⟩
  show z_ok sx d 343 355 (z_set1 (z_set1 lo 5 (.int c1)) 6 (.int c2)) [.int t9] h2 _
  refine zh_ild zJ_343 (a := 5) (b := 0) (z := 0) (zQf (k := 355) 3 zQd_11 rfl rfl) (k' := 356) rfl (zget_set1_ne zget_self (by omega) rfl) ?_
  refine zh_icmp zJ_343 (a := 359) (b := 0) (z := 0) rfl (fun _ => ?_) (fun hc => absurd (zcmp_eq.mpr ec9) hc)
  refine zh_ild zJ_343 (a := 5) (b := 0) (z := 0) (zQf (k := 359) 7 zQd_11 rfl rfl) (k' := 360) rfl (zget_set1_ne zget_self (by omega) rfl) ?_
  refine zh_if zJ_343 (a := 370) (b := 1) (z := 0) rfl (fun _ => ?_) (fun hc => ?_)
  · refine zgoto rfl ?_
    exact z_ok.imp (K _ _ h2 _ x1 y1 I2 ((Lv.set (b := 5) (v := c1) (by omega)).set (b := 6) (v := c2) (by omega)) (by omega) (by omega) (by omega)) (fun o h9 a b q => q)
  · have c0 : c1.toInt = 0 := Decidable.byContradiction (fun e => hc (zcmp_ne.mpr e))
    obtain ⟨f9, hf9⟩ := zcell3 (n := 1) I2.1 I2.2.2.2.2.1 rfl rfl
    have v9 : f9 0 = c2.toInt64 := by
      have := el9 c0
      rw [zv_at hf9, z_rd2, if_pos (by decide)] at this
      exact Value.long.inj this
    refine zh_ald zJ_343 (a := 3) (b := 0) (z := 0) rfl (k' := 362) rfl ((Lv.set (b := 5) (v := c1) (by omega)).set (b := 6) (v := c2) (by omega)).2.2.2.1 ?_
    refine zh zJ_343 (i := (0, 0, 0, 0)) rfl rfl (k' := 363) (lo' := (z_set1 (z_set1 lo 5 (.int c1)) 6 (.int c2))) (st' := [.int (Int32.ofInt 0), .ref ao]) (h' := h2) rfl ?_
    refine zh zJ_343 (i := (34, 0, 0, 0)) rfl rfl (k' := 364) (lo' := (z_set1 (z_set1 lo 5 (.int c1)) 6 (.int c2))) (st' := [.long (f9 0)]) (h' := h2) (by
      show zo_lald sx d 0 0 0 363 _ [.int (Int32.ofInt 0), .ref ao] h2 = _
      unfold zo_lald
      dsimp only
      rw [hf9]
      exact if_pos rfl) ?_
    refine zh_ild zJ_343 (a := 6) (b := 0) (z := 0) (zQf (k := 364) 12 zQd_11 rfl rfl) (k' := 365) rfl zget_self ?_
    refine zh zJ_343 (i := (19, 0, 0, 0)) rfl rfl (k' := 366) (lo' := (z_set1 (z_set1 lo 5 (.int c1)) 6 (.int c2))) (st' := [.long c2.toInt64, .long (f9 0)]) (h' := h2) rfl ?_
    refine zh zJ_343 (i := (26, 0, 0, 0)) rfl rfl (k' := 367) (lo' := (z_set1 (z_set1 lo 5 (.int c1)) 6 (.int c2))) (st' := [.int (lg_cmp (f9 0) c2.toInt64)]) (h' := h2) rfl ?_
    refine zh_if zJ_343 (a := 370) (b := 0) (z := 0) rfl (fun _ => ?_) (fun hc => absurd (by rw [v9]; exact zlg_self _) hc)
    refine zgoto rfl ?_
    exact z_ok.imp (K _ _ h2 _ x1 y1 I2 ((Lv.set (b := 5) (v := c1) (by omega)).set (b := 6) (v := c2) (by omega)) (by omega) (by omega) (by omega)) (fun o h9 a b q => q)
set_option maxRecDepth 100000 in
theorem zcs_14 {sx : zX} {d : Nat} {ty : List Nat} {lo : zL} {h : zH} {Ψ : zO → zH → Nat → Nat → Prop} {ax am ao i : Nat} {N : Int} (H : ∀ (c : Nat) (c' : zCt), zCtl[c]? = some c' → zVd z_tt zE1 c') (hd : 60 ≤ d) (hi : i + 6 ≤ sx.1) (hL : sx.1 ≤ 3072) (hB : h.length + 6 ≤ zB) (I : zIw ty h ax am ao N) (Lv : zLv lo ax am ao i) (K : zKc sx d ax am ao i h Ψ) : z_ok sx d 343 371 lo [] h Ψ := by
  refine zh_ald zJ_343 (k' := 372) (zQf (k := 371) 19 zQd_11 rfl rfl) rfl Lv.2.1 ?_
  refine zscr 372 373 374 375 376 377 1 (zQf (k := 372) 20 zQd_11 rfl rfl) (zQf (k := 373) 21 zQd_11 rfl rfl) (zQf (k := 374) 22 zQd_11 rfl rfl) (zQf (k := 375) 23 zQd_11 rfl rfl) (zQf (k := 376) 24 zQd_11 rfl rfl) rfl rfl rfl rfl rfl rfl (by omega) Lv hi hL (fun v0 ev0 => ?_)
  refine zh_ald zJ_343 (k' := 378) (zQf (k := 377) 25 zQd_11 rfl rfl) rfl Lv.2.2.2.1 ?_
  refine zlcq (ct := zC285) (as := [.ref ax, .int v0, .ref ao]) (i := (72, 326, 3, 0)) I.v (zQf (k := 378) 26 zQd_11 rfl rfl) (k' := 379) rfl (by decide) (zcal72 (xs := [.ref ao, .int v0, .ref ax]) (rest := []) (by omega) rfl rfl (Nat.le_of_ble_eq_true rfl) (M' := z_m326) rfl (Nat.le_of_ble_eq_true rfl)) (H 285 _ rfl) rfl (by show 10 + 1 ≤ d; omega) rfl (by decide +kernel) (by decide +kernel) (by decide +kernel) ⟨⟨ax, 1, rfl, I.2.2.1, Int.le_refl _, Int.le_refl _⟩, zFull_ok _, ⟨ao, 33, rfl, I.2.2.2.2.1, Int.le_refl _, Int.le_refl _⟩, trivial⟩ sq_326 rfl (fun ty1 h1 w1 x1 y1 I1 V1 G1 cx1 cy1 l1 => ?_)
  have cx1 : x1 ≤ 1 := cx1
  have cy1 : y1 ≤ 6 := cy1
  match w1, V1, G1 with
  | some w1, V1, G1 =>
  obtain ⟨c1, rfl, -⟩ := V1
  have G1 : p_326 ax v0 ao (za h) c1 (za h1) := by
    obtain ⟨r9, er9, g9⟩ := G1
    have er9 : r9 = c1 := by cases er9; rfl
    rw [er9] at g9
    exact g9
  show z_ok sx d 343 379 lo [.int c1] h1 _
  refine zh_ist zJ_343 (a := 5) (b := 0) (z := 0) (zQf (k := 379) 27 zQd_11 rfl rfl) (k' := 380) rfl ?_
  refine zh_ald zJ_343 (k' := 381) (zQf (k := 380) 28 zQd_11 rfl rfl) rfl (Lv.set (b := 5) (v := c1) (by omega)).2.2.1 ?_
  refine zscr 381 382 383 384 385 386 1 (zQf (k := 381) 29 zQd_11 rfl rfl) (zQf (k := 382) 30 zQd_11 rfl rfl) (zQf (k := 383) 31 zQd_11 rfl rfl) (zQf (k := 384) 0 zQd_12 rfl rfl) (zQf (k := 385) 1 zQd_12 rfl rfl) rfl rfl rfl rfl rfl rfl (by omega) (Lv.set (b := 5) (v := c1) (by omega)) hi hL (fun v1 ev1 => ?_)
  obtain ⟨fs1, he1, -⟩ := zcell0 (c := 9) (n := 23) I1.1 I1.2.2.2.1 rfl rfl rfl
  refine zlcq (ct := zC193) (as := [.ref am, .int v1]) (i := (54, 259, 1, 9)) I1 (zQf (k := 386) 2 zQd_12 rfl rfl) (k' := 387) rfl (by decide) (zcal54 (xs := [.int v1]) (rest := []) (by omega) rfl rfl he1 rfl (Nat.le_of_ble_eq_true rfl) (M' := z_m259) rfl (Nat.le_of_ble_eq_true rfl)) (H 193 _ rfl) rfl (by show 5 + 1 ≤ d; omega) rfl (by decide +kernel) (by decide +kernel) (by decide +kernel) ⟨⟨am, 20, rfl, I1.2.2.2.1, Int.le_refl _, Int.le_refl _⟩, zFull_ok _, trivial⟩ sq_259 rfl (fun ty2 h2 w2 x2 y2 I2 V2 G2 cx2 cy2 l2 => ?_)
  have cx2 : x2 ≤ 0 := cx2
  have cy2 : y2 ≤ 0 := cy2
  match w2, V2, G2 with
  | some w2, V2, G2 =>
  obtain ⟨c2, rfl, -⟩ := V2
  have G2 : p_259 am v1 (za h1) c2 (za h2) := by
    obtain ⟨r9, er9, g9⟩ := G2
    have er9 : r9 = c2 := by cases er9; rfl
    rw [er9] at g9
    exact g9
  have ee0 : v1 = v0 := by rw [ev1, ev0]
  rw [ee0] at G2
  have Z2 : zHld (za h2) ∧ zLik (za h2) c1 c2 := by
    obtain ⟨⟨rfl, rfl, rfl⟩, -⟩ := I.lx
    obtain ⟨p0, w0, K0, R0⟩ := I.hd
    exact zq_14 w0 K0 R0 G1 G2
  have I2 := I2.w Z2.1
  have GE : ∃ t : Int32, zv h2 am 0 = .int t ∧ t.toInt = c1.toInt ∧ (c1.toInt = 0 → zv h2 ao 0 = .long c2.toInt64) := by
    obtain ⟨⟨rfl, rfl, rfl⟩, -⟩ := I.lx
    exact Z2.2
  have zx2 : x2 = 0 := by omega
  have zy2 : y2 = 0 := by omega
  subst zx2
  subst zy2
  show z_ok sx d 343 387 (z_set1 lo 5 (.int c1)) [.int c2] h2 _
  refine zh_ist zJ_343 (a := 6) (b := 0) (z := 0) (zQf (k := 387) 3 zQd_12 rfl rfl) (k' := 388) rfl ?_
  refine zgoto (zQf (k := 388) 4 zQd_12 rfl rfl) ?_
  exact K.use I2 ((Lv.set (b := 5) (v := c1) (by omega)).set (b := 6) (v := c2) (by omega)) (by omega) (by omega) (by omega)
set_option maxRecDepth 100000 in
theorem zcs_15 {sx : zX} {d : Nat} {ty : List Nat} {lo : zL} {h : zH} {Ψ : zO → zH → Nat → Nat → Prop} {ax am ao i : Nat} {N : Int} (H : ∀ (c : Nat) (c' : zCt), zCtl[c]? = some c' → zVd z_tt zE1 c') (hd : 60 ≤ d) (hi : i + 6 ≤ sx.1) (hL : sx.1 ≤ 3072) (hB : h.length + 6 ≤ zB) (I : zIw ty h ax am ao N) (Lv : zLv lo ax am ao i) (K : zKc sx d ax am ao i h Ψ) : z_ok sx d 343 389 lo [] h Ψ := by
  refine zh_ald zJ_343 (k' := 390) (zQf (k := 389) 5 zQd_12 rfl rfl) rfl Lv.2.1 ?_
  refine zh_ald zJ_343 (k' := 391) (zQf (k := 390) 6 zQd_12 rfl rfl) rfl Lv.2.2.2.1 ?_
  refine zlcq (ct := zC286) (as := [.ref ax, .ref ao]) (i := (72, 327, 2, 0)) I.v (zQf (k := 391) 7 zQd_12 rfl rfl) (k' := 392) rfl (by decide) (zcal72 (xs := [.ref ao, .ref ax]) (rest := []) (by omega) rfl rfl (Nat.le_of_ble_eq_true rfl) (M' := z_m327) rfl (Nat.le_of_ble_eq_true rfl)) (H 286 _ rfl) rfl (by show 10 + 1 ≤ d; omega) rfl (by decide +kernel) (by decide +kernel) (by decide +kernel) ⟨⟨ax, 1, rfl, I.2.2.1, Int.le_refl _, Int.le_refl _⟩, ⟨ao, 33, rfl, I.2.2.2.2.1, Int.le_refl _, Int.le_refl _⟩, trivial⟩ sq_327 rfl (fun ty1 h1 w1 x1 y1 I1 V1 G1 cx1 cy1 l1 => ?_)
  have cx1 : x1 ≤ 1 := cx1
  have cy1 : y1 ≤ 6 := cy1
  match w1, V1, G1 with
  | some w1, V1, G1 =>
  obtain ⟨c1, rfl, -⟩ := V1
  have G1 : p_327 ax ao (za h) c1 (za h1) := by
    obtain ⟨r9, er9, g9⟩ := G1
    have er9 : r9 = c1 := by cases er9; rfl
    rw [er9] at g9
    exact g9
  show z_ok sx d 343 392 lo [.int c1] h1 _
  refine zh_ist zJ_343 (a := 5) (b := 0) (z := 0) (zQf (k := 392) 8 zQd_12 rfl rfl) (k' := 393) rfl ?_
  refine zh_ald zJ_343 (k' := 394) (zQf (k := 393) 9 zQd_12 rfl rfl) rfl (Lv.set (b := 5) (v := c1) (by omega)).2.2.1 ?_
  obtain ⟨fs1, he1, -⟩ := zcell0 (c := 9) (n := 23) I1.1 I1.2.2.2.1 rfl rfl rfl
  refine zlcq (ct := zC194) (as := [.ref am]) (i := (54, 260, 0, 9)) I1 (zQf (k := 394) 10 zQd_12 rfl rfl) (k' := 395) rfl (by decide) (zcal54 (xs := []) (rest := []) (by omega) rfl rfl he1 rfl (Nat.le_of_ble_eq_true rfl) (M' := z_m260) rfl (Nat.le_of_ble_eq_true rfl)) (H 194 _ rfl) rfl (by show 2 + 1 ≤ d; omega) rfl (by decide +kernel) (by decide +kernel) (by decide +kernel) ⟨⟨am, 20, rfl, I1.2.2.2.1, Int.le_refl _, Int.le_refl _⟩, trivial⟩ sq_260 rfl (fun ty2 h2 w2 x2 y2 I2 V2 G2 cx2 cy2 l2 => ?_)
  have cx2 : x2 ≤ 0 := cx2
  have cy2 : y2 ≤ 0 := cy2
  match w2, V2, G2 with
  | some w2, V2, G2 =>
  obtain ⟨c2, rfl, -⟩ := V2
  have G2 : p_260 am (za h1) c2 (za h2) := by
    obtain ⟨r9, er9, g9⟩ := G2
    have er9 : r9 = c2 := by cases er9; rfl
    rw [er9] at g9
    exact g9
  have Z2 : zHld (za h2) ∧ zLik (za h2) c1 c2 := by
    obtain ⟨⟨rfl, rfl, rfl⟩, -⟩ := I.lx
    obtain ⟨p0, w0, K0, R0⟩ := I.hd
    exact zq_15 w0 K0 R0 G1 G2
  have I2 := I2.w Z2.1
  have GE : ∃ t : Int32, zv h2 am 0 = .int t ∧ t.toInt = c1.toInt ∧ (c1.toInt = 0 → zv h2 ao 0 = .long c2.toInt64) := by
    obtain ⟨⟨rfl, rfl, rfl⟩, -⟩ := I.lx
    exact Z2.2
  have zx2 : x2 = 0 := by omega
  have zy2 : y2 = 0 := by omega
  subst zx2
  subst zy2
  show z_ok sx d 343 395 (z_set1 lo 5 (.int c1)) [.int c2] h2 _
  refine zh_ist zJ_343 (a := 6) (b := 0) (z := 0) (zQf (k := 395) 11 zQd_12 rfl rfl) (k' := 396) rfl ?_
  refine zgoto (zQf (k := 396) 12 zQd_12 rfl rfl) ?_
  exact K.use I2 ((Lv.set (b := 5) (v := c1) (by omega)).set (b := 6) (v := c2) (by omega)) (by omega) (by omega) (by omega)
set_option maxRecDepth 100000 in
theorem zcs_16 {sx : zX} {d : Nat} {ty : List Nat} {lo : zL} {h : zH} {Ψ : zO → zH → Nat → Nat → Prop} {ax am ao i : Nat} {N : Int} (H : ∀ (c : Nat) (c' : zCt), zCtl[c]? = some c' → zVd z_tt zE1 c') (hd : 60 ≤ d) (hi : i + 6 ≤ sx.1) (hL : sx.1 ≤ 3072) (hB : h.length + 6 ≤ zB) (I : zIw ty h ax am ao N) (Lv : zLv lo ax am ao i) (K : zKc sx d ax am ao i h Ψ) : z_ok sx d 343 397 lo [] h Ψ := by
  refine zh_ald zJ_343 (k' := 398) (zQf (k := 397) 13 zQd_12 rfl rfl) rfl Lv.2.1 ?_
  obtain ⟨fs0, he0, -⟩ := zcell0 (c := 8) (n := 8) I.1 I.2.2.1 rfl rfl rfl
  refine zlcq (ct := zC121) (as := [.ref ax]) (i := (54, 134, 0, 8)) I.v (zQf (k := 398) 14 zQd_12 rfl rfl) (k' := 399) rfl (by decide) (zcal54 (xs := []) (rest := []) (by omega) rfl rfl he0 rfl (Nat.le_of_ble_eq_true rfl) (M' := z_m134) rfl (Nat.le_of_ble_eq_true rfl)) (H 121 _ rfl) rfl (by show 9 + 1 ≤ d; omega) rfl (by decide +kernel) (by decide +kernel) (by decide +kernel) ⟨⟨ax, 1, rfl, I.2.2.1, Int.le_refl _, Int.le_refl _⟩, trivial⟩ sq_134 rfl (fun ty1 h1 w1 x1 y1 I1 V1 G1 cx1 cy1 l1 => ?_)
  have cx1 : x1 ≤ 0 := cx1
  have cy1 : y1 ≤ 0 := cy1
  match w1, V1, G1 with
  | some w1, V1, G1 =>
  obtain ⟨c1, rfl, -⟩ := V1
  have G1 : p_134 ax (za h) c1 (za h1) := by
    obtain ⟨r9, er9, g9⟩ := G1
    have er9 : r9 = c1 := by cases er9; rfl
    rw [er9] at g9
    exact g9
  show z_ok sx d 343 399 lo [.int c1] h1 _
  refine zpop (zQf (k := 399) 15 zQd_12 rfl rfl) (k' := 400) rfl ?_
  refine zh_ald zJ_343 (k' := 401) (zQf (k := 400) 16 zQd_12 rfl rfl) rfl Lv.2.2.1 ?_
  obtain ⟨fs1, he1, -⟩ := zcell0 (c := 9) (n := 23) I1.1 I1.2.2.2.1 rfl rfl rfl
  refine zlcq (ct := zC195) (as := [.ref am]) (i := (54, 261, 0, 9)) I1 (zQf (k := 401) 17 zQd_12 rfl rfl) (k' := 402) rfl (by decide) (zcal54 (xs := []) (rest := []) (by omega) rfl rfl he1 rfl (Nat.le_of_ble_eq_true rfl) (M' := z_m261) rfl (Nat.le_of_ble_eq_true rfl)) (H 195 _ rfl) rfl (by show 1 + 1 ≤ d; omega) rfl (by decide +kernel) (by decide +kernel) (by decide +kernel) ⟨⟨am, 20, rfl, I1.2.2.2.1, Int.le_refl _, Int.le_refl _⟩, trivial⟩ sq_261 rfl (fun ty2 h2 w2 x2 y2 I2 V2 G2 cx2 cy2 l2 => ?_)
  have cx2 : x2 ≤ 0 := cx2
  have cy2 : y2 ≤ 0 := cy2
  match w2, V2, G2 with
  | some w2, V2, G2 =>
  obtain ⟨c2, rfl, -⟩ := V2
  have G2 : p_261 am (za h1) c2 (za h2) := by
    obtain ⟨r9, er9, g9⟩ := G2
    have er9 : r9 = c2 := by cases er9; rfl
    rw [er9] at g9
    exact g9
  have Z2 : zHld (za h2) ∧ c1 = c2 := by
    obtain ⟨⟨rfl, rfl, rfl⟩, -⟩ := I.lx
    obtain ⟨p0, w0, K0, R0⟩ := I.hd
    exact zq_16 w0 K0 R0 G1 G2
  have I2 := I2.w Z2.1
  have ec : c1.toInt = c2.toInt := congrArg Int32.toInt Z2.2
  show z_ok sx d 343 402 lo [.int c2] h2 _
  refine zpop (zQf (k := 402) 18 zQd_12 rfl rfl) (k' := 403) rfl ?_
  refine zgoto (zQf (k := 403) 19 zQd_12 rfl rfl) ?_
  exact K.use I2 Lv (by omega) (by omega) (by omega)
set_option maxRecDepth 100000 in
theorem zcs_17 {sx : zX} {d : Nat} {ty : List Nat} {lo : zL} {h : zH} {Ψ : zO → zH → Nat → Nat → Prop} {ax am ao i : Nat} {N : Int} (H : ∀ (c : Nat) (c' : zCt), zCtl[c]? = some c' → zVd z_tt zE1 c') (hd : 60 ≤ d) (hi : i + 6 ≤ sx.1) (hL : sx.1 ≤ 3072) (hB : h.length + 6 ≤ zB) (I : zIw ty h ax am ao N) (Lv : zLv lo ax am ao i) (K : zKc sx d ax am ao i h Ψ) : z_ok sx d 343 404 lo [] h Ψ := by
  refine zh_ald zJ_343 (k' := 405) (zQf (k := 404) 20 zQd_12 rfl rfl) rfl Lv.2.1 ?_
  refine zscr 405 406 407 408 409 410 1 (zQf (k := 405) 21 zQd_12 rfl rfl) (zQf (k := 406) 22 zQd_12 rfl rfl) (zQf (k := 407) 23 zQd_12 rfl rfl) (zQf (k := 408) 24 zQd_12 rfl rfl) (zQf (k := 409) 25 zQd_12 rfl rfl) rfl rfl rfl rfl rfl rfl (by omega) Lv hi hL (fun v0 ev0 => ?_)
  refine zh_ald zJ_343 (k' := 411) (zQf (k := 410) 26 zQd_12 rfl rfl) rfl Lv.2.2.2.1 ?_
  refine zlcq (ct := zC287) (as := [.ref ax, .int v0, .ref ao]) (i := (72, 328, 3, 0)) I.v (zQf (k := 411) 27 zQd_12 rfl rfl) (k' := 412) rfl (by decide) (zcal72 (xs := [.ref ao, .int v0, .ref ax]) (rest := []) (by omega) rfl rfl (Nat.le_of_ble_eq_true rfl) (M' := z_m328) rfl (Nat.le_of_ble_eq_true rfl)) (H 287 _ rfl) rfl (by show 25 + 1 ≤ d; omega) rfl (by decide +kernel) (by decide +kernel) (by decide +kernel) ⟨⟨ax, 1, rfl, I.2.2.1, Int.le_refl _, Int.le_refl _⟩, zFull_ok _, ⟨ao, 33, rfl, I.2.2.2.2.1, Int.le_refl _, Int.le_refl _⟩, trivial⟩ sq_328 rfl (fun ty1 h1 w1 x1 y1 I1 V1 G1 cx1 cy1 l1 => ?_)
  have cx1 : x1 ≤ 1 := cx1
  have cy1 : y1 ≤ 6 := cy1
  match w1, V1, G1 with
  | some w1, V1, G1 =>
  obtain ⟨c1, rfl, -⟩ := V1
  have G1 : p_328 ax v0 ao (za h) c1 (za h1) := by
    obtain ⟨r9, er9, g9⟩ := G1
    have er9 : r9 = c1 := by cases er9; rfl
    rw [er9] at g9
    exact g9
  show z_ok sx d 343 412 lo [.int c1] h1 _
  refine zh_ist zJ_343 (a := 5) (b := 0) (z := 0) (zQf (k := 412) 28 zQd_12 rfl rfl) (k' := 413) rfl ?_
  refine zh_ald zJ_343 (k' := 414) (zQf (k := 413) 29 zQd_12 rfl rfl) rfl (Lv.set (b := 5) (v := c1) (by omega)).2.2.1 ?_
  refine zscr 414 415 416 417 418 419 1 (zQf (k := 414) 30 zQd_12 rfl rfl) (zQf (k := 415) 31 zQd_12 rfl rfl) (zQf (k := 416) 0 zQd_13 rfl rfl) (zQf (k := 417) 1 zQd_13 rfl rfl) (zQf (k := 418) 2 zQd_13 rfl rfl) rfl rfl rfl rfl rfl rfl (by omega) (Lv.set (b := 5) (v := c1) (by omega)) hi hL (fun v1 ev1 => ?_)
  obtain ⟨fs1, he1, -⟩ := zcell0 (c := 9) (n := 23) I1.1 I1.2.2.2.1 rfl rfl rfl
  refine zlcq (ct := zC263) (as := [.ref am, .int v1]) (i := (54, 269, 1, 9)) I1 (zQf (k := 419) 3 zQd_13 rfl rfl) (k' := 420) rfl (by decide) (zcal54 (xs := [.int v1]) (rest := []) (by omega) rfl rfl he1 rfl (Nat.le_of_ble_eq_true rfl) (M' := z_m269) rfl (Nat.le_of_ble_eq_true rfl)) (H 263 _ rfl) rfl (by show 27 + 1 ≤ d; omega) rfl (by decide +kernel) (by decide +kernel) (by decide +kernel) ⟨⟨am, 20, rfl, I1.2.2.2.1, Int.le_refl _, Int.le_refl _⟩, zFull_ok _, trivial⟩ sq_269 rfl (fun ty2 h2 w2 x2 y2 I2 V2 G2 cx2 cy2 l2 => ?_)
  have cx2 : x2 ≤ 0 := cx2
  have cy2 : y2 ≤ 0 := cy2
  match w2, V2, G2 with
  | some w2, V2, G2 =>
  obtain ⟨c2, rfl, -⟩ := V2
  have G2 : p_269 am v1 (za h1) c2 (za h2) := by
    obtain ⟨r9, er9, g9⟩ := G2
    have er9 : r9 = c2 := by cases er9; rfl
    rw [er9] at g9
    exact g9
  have ee0 : v1 = v0 := by rw [ev1, ev0]
  rw [ee0] at G2
  have Z2 : zHld (za h2) ∧ zLik (za h2) c1 c2 := by
    obtain ⟨⟨rfl, rfl, rfl⟩, -⟩ := I.lx
    obtain ⟨p0, w0, K0, R0⟩ := I.hd
    exact zq_17 w0 K0 R0 G1 G2
  have I2 := I2.w Z2.1
  have GE : ∃ t : Int32, zv h2 am 0 = .int t ∧ t.toInt = c1.toInt ∧ (c1.toInt = 0 → zv h2 ao 0 = .long c2.toInt64) := by
    obtain ⟨⟨rfl, rfl, rfl⟩, -⟩ := I.lx
    exact Z2.2
  have zx2 : x2 = 0 := by omega
  have zy2 : y2 = 0 := by omega
  subst zx2
  subst zy2
  show z_ok sx d 343 420 (z_set1 lo 5 (.int c1)) [.int c2] h2 _
  refine zh_ist zJ_343 (a := 6) (b := 0) (z := 0) (zQf (k := 420) 4 zQd_13 rfl rfl) (k' := 421) rfl ?_
  refine zgoto (zQf (k := 421) 5 zQd_13 rfl rfl) ?_
  exact K.use I2 ((Lv.set (b := 5) (v := c1) (by omega)).set (b := 6) (v := c2) (by omega)) (by omega) (by omega) (by omega)
set_option maxRecDepth 100000 in
theorem zcs_18 {sx : zX} {d : Nat} {ty : List Nat} {lo : zL} {h : zH} {Ψ : zO → zH → Nat → Nat → Prop} {ax am ao i : Nat} {N : Int} (H : ∀ (c : Nat) (c' : zCt), zCtl[c]? = some c' → zVd z_tt zE1 c') (hd : 60 ≤ d) (hi : i + 6 ≤ sx.1) (hL : sx.1 ≤ 3072) (hB : h.length + 6 ≤ zB) (I : zIw ty h ax am ao N) (Lv : zLv lo ax am ao i) (K : zKc sx d ax am ao i h Ψ) : z_ok sx d 343 422 lo [] h Ψ := by
  refine zh_ald zJ_343 (k' := 423) (zQf (k := 422) 6 zQd_13 rfl rfl) rfl Lv.2.1 ?_
  obtain ⟨fs0, he0, -⟩ := zcell0 (c := 8) (n := 8) I.1 I.2.2.1 rfl rfl rfl
  refine zlcon (ct := zC124) (as := [.ref ax]) (i := (54, 136, 0, 8)) I (zQf (k := 423) 7 zQd_13 rfl rfl) (k' := 424) rfl (by decide) (zcal54 (xs := []) (rest := []) (by omega) rfl rfl he0 rfl (Nat.le_of_ble_eq_true rfl) (M' := z_m136) rfl (Nat.le_of_ble_eq_true rfl)) (H 124 _ rfl) rfl (by show 3 + 1 ≤ d; omega) rfl (by decide +kernel) (by decide +kernel) (by decide +kernel) (by decide +kernel) ⟨⟨ax, 1, rfl, I.2.2.1, Int.le_refl _, Int.le_refl _⟩, trivial⟩ (fun ty1 h1 w1 x1 y1 I1 V1 cx1 cy1 l1 => ?_)
  have cx1 : x1 ≤ 0 := cx1
  have cy1 : y1 ≤ 0 := cy1
  match w1, V1 with
  | some w1, V1 =>
  obtain ⟨c1, rfl, -⟩ := V1
  show z_ok sx d 343 424 lo [.int c1] h1 _
  refine zpop (zQf (k := 424) 8 zQd_13 rfl rfl) (k' := 425) rfl ?_
  refine zh_ald zJ_343 (k' := 426) (zQf (k := 425) 9 zQd_13 rfl rfl) rfl Lv.2.2.1 ?_
  obtain ⟨fs1, he1, -⟩ := zcell0 (c := 9) (n := 23) I1.1 I1.2.2.2.1 rfl rfl rfl
  refine zlcon (ct := zC197) (as := [.ref am]) (i := (54, 274, 0, 9)) I1 (zQf (k := 426) 10 zQd_13 rfl rfl) (k' := 427) rfl (by decide) (zcal54 (xs := []) (rest := []) (by omega) rfl rfl he1 rfl (Nat.le_of_ble_eq_true rfl) (M' := z_m274) rfl (Nat.le_of_ble_eq_true rfl)) (H 197 _ rfl) rfl (by show 1 + 1 ≤ d; omega) rfl (by decide +kernel) (by decide +kernel) (by decide +kernel) (by decide +kernel) ⟨⟨am, 20, rfl, I1.2.2.2.1, Int.le_refl _, Int.le_refl _⟩, trivial⟩ (fun ty2 h2 w2 x2 y2 I2 V2 cx2 cy2 l2 => ?_)
  have cx2 : x2 ≤ 0 := cx2
  have cy2 : y2 ≤ 0 := cy2
  match w2, V2 with
  | some w2, V2 =>
  obtain ⟨c2, rfl, -⟩ := V2
  show z_ok sx d 343 427 lo [.int c2] h2 _
  refine zpop (zQf (k := 427) 11 zQd_13 rfl rfl) (k' := 428) rfl ?_
  refine zgoto (zQf (k := 428) 12 zQd_13 rfl rfl) ?_
  exact K.use I2 Lv (by omega) (by omega) (by omega)
set_option maxRecDepth 100000 in
theorem zcs_19 {sx : zX} {d : Nat} {ty : List Nat} {lo : zL} {h : zH} {Ψ : zO → zH → Nat → Nat → Prop} {ax am ao i : Nat} {N : Int} (H : ∀ (c : Nat) (c' : zCt), zCtl[c]? = some c' → zVd z_tt zE1 c') (hd : 60 ≤ d) (hi : i + 6 ≤ sx.1) (hL : sx.1 ≤ 3072) (hB : h.length + 6 ≤ zB) (I : zIw ty h ax am ao N) (Lv : zLv lo ax am ao i) (K : zKc sx d ax am ao i h Ψ) : z_ok sx d 343 429 lo [] h Ψ := by
  refine zh_ald zJ_343 (k' := 430) (zQf (k := 429) 13 zQd_13 rfl rfl) rfl Lv.2.1 ?_
  refine zscr 430 431 432 433 434 435 1 (zQf (k := 430) 14 zQd_13 rfl rfl) (zQf (k := 431) 15 zQd_13 rfl rfl) (zQf (k := 432) 16 zQd_13 rfl rfl) (zQf (k := 433) 17 zQd_13 rfl rfl) (zQf (k := 434) 18 zQd_13 rfl rfl) rfl rfl rfl rfl rfl rfl (by omega) Lv hi hL (fun v0 ev0 => ?_)
  refine zscr 435 436 437 438 439 440 2 (zQf (k := 435) 19 zQd_13 rfl rfl) (zQf (k := 436) 20 zQd_13 rfl rfl) (zQf (k := 437) 21 zQd_13 rfl rfl) (zQf (k := 438) 22 zQd_13 rfl rfl) (zQf (k := 439) 23 zQd_13 rfl rfl) rfl rfl rfl rfl rfl rfl (by omega) Lv hi hL (fun v1 ev1 => ?_)
  refine zh_ald zJ_343 (k' := 441) (zQf (k := 440) 24 zQd_13 rfl rfl) rfl Lv.2.2.2.1 ?_
  refine zlcon (ct := zC288) (as := [.ref ax, .int v0, .int v1, .ref ao]) (i := (72, 329, 4, 0)) I (zQf (k := 441) 25 zQd_13 rfl rfl) (k' := 442) rfl (by decide) (zcal72 (xs := [.ref ao, .int v1, .int v0, .ref ax]) (rest := []) (by omega) rfl rfl (Nat.le_of_ble_eq_true rfl) (M' := z_m329) rfl (Nat.le_of_ble_eq_true rfl)) (H 288 _ rfl) rfl (by show 8 + 1 ≤ d; omega) rfl (by decide +kernel) (by decide +kernel) (by decide +kernel) (by decide +kernel) ⟨⟨ax, 1, rfl, I.2.2.1, Int.le_refl _, Int.le_refl _⟩, zFull_ok _, zFull_ok _, ⟨ao, 33, rfl, I.2.2.2.2.1, Int.le_refl _, Int.le_refl _⟩, trivial⟩ (fun ty1 h1 w1 x1 y1 I1 V1 cx1 cy1 l1 => ?_)
  have cx1 : x1 ≤ 1 := cx1
  have cy1 : y1 ≤ 6 := cy1
  match w1, V1 with
  | some w1, V1 =>
  obtain ⟨c1, rfl, -⟩ := V1
  show z_ok sx d 343 442 lo [.int c1] h1 _
  refine zh_ist zJ_343 (a := 5) (b := 0) (z := 0) (zQf (k := 442) 26 zQd_13 rfl rfl) (k' := 443) rfl ?_
  refine zh_ald zJ_343 (k' := 444) (zQf (k := 443) 27 zQd_13 rfl rfl) rfl (Lv.set (b := 5) (v := c1) (by omega)).2.2.1 ?_
  refine zscr 444 445 446 447 448 449 1 (zQf (k := 444) 28 zQd_13 rfl rfl) (zQf (k := 445) 29 zQd_13 rfl rfl) (zQf (k := 446) 30 zQd_13 rfl rfl) (zQf (k := 447) 31 zQd_13 rfl rfl) (zQf (k := 448) 0 zQd_14 rfl rfl) rfl rfl rfl rfl rfl rfl (by omega) (Lv.set (b := 5) (v := c1) (by omega)) hi hL (fun v2 ev2 => ?_)
  refine zscr 449 450 451 452 453 454 2 (zQf (k := 449) 1 zQd_14 rfl rfl) (zQf (k := 450) 2 zQd_14 rfl rfl) (zQf (k := 451) 3 zQd_14 rfl rfl) (zQf (k := 452) 4 zQd_14 rfl rfl) (zQf (k := 453) 5 zQd_14 rfl rfl) rfl rfl rfl rfl rfl rfl (by omega) (Lv.set (b := 5) (v := c1) (by omega)) hi hL (fun v3 ev3 => ?_)
  obtain ⟨fs1, he1, -⟩ := zcell0 (c := 9) (n := 23) I1.1 I1.2.2.2.1 rfl rfl rfl
  refine zlcon (ct := zC199) (as := [.ref am, .int v2, .int v3]) (i := (54, 277, 2, 9)) I1 (zQf (k := 454) 6 zQd_14 rfl rfl) (k' := 455) rfl (by decide) (zcal54 (xs := [.int v3, .int v2]) (rest := []) (by omega) rfl rfl he1 rfl (Nat.le_of_ble_eq_true rfl) (M' := z_m277) rfl (Nat.le_of_ble_eq_true rfl)) (H 199 _ rfl) rfl (by show 3 + 1 ≤ d; omega) rfl (by decide +kernel) (by decide +kernel) (by decide +kernel) (by decide +kernel) ⟨⟨am, 20, rfl, I1.2.2.2.1, Int.le_refl _, Int.le_refl _⟩, zFull_ok _, zFull_ok _, trivial⟩ (fun ty2 h2 w2 x2 y2 I2 V2 cx2 cy2 l2 => ?_)
  have cx2 : x2 ≤ 0 := cx2
  have cy2 : y2 ≤ 0 := cy2
  match w2, V2 with
  | some w2, V2 =>
  obtain ⟨c2, rfl, -⟩ := V2
  show z_ok sx d 343 455 (z_set1 lo 5 (.int c1)) [.int c2] h2 _
  refine zh_ist zJ_343 (a := 6) (b := 0) (z := 0) (zQf (k := 455) 7 zQd_14 rfl rfl) (k' := 456) rfl ?_
  refine zgoto (zQf (k := 456) 8 zQd_14 rfl rfl) ?_
  exact K.use I2 ((Lv.set (b := 5) (v := c1) (by omega)).set (b := 6) (v := c2) (by omega)) (by omega) (by omega) (by omega)
set_option maxRecDepth 100000 in
theorem zcs_20 {sx : zX} {d : Nat} {ty : List Nat} {lo : zL} {h : zH} {Ψ : zO → zH → Nat → Nat → Prop} {ax am ao i : Nat} {N : Int} (H : ∀ (c : Nat) (c' : zCt), zCtl[c]? = some c' → zVd z_tt zE1 c') (hd : 60 ≤ d) (hi : i + 6 ≤ sx.1) (hL : sx.1 ≤ 3072) (hB : h.length + 6 ≤ zB) (I : zIw ty h ax am ao N) (Lv : zLv lo ax am ao i) (K : zKc sx d ax am ao i h Ψ) : z_ok sx d 343 457 lo [] h Ψ := by
  refine zh_ald zJ_343 (k' := 458) (zQf (k := 457) 9 zQd_14 rfl rfl) rfl Lv.2.1 ?_
  obtain ⟨fs0, he0, -⟩ := zcell0 (c := 8) (n := 8) I.1 I.2.2.1 rfl rfl rfl
  refine zlcon (ct := zC126) (as := [.ref ax]) (i := (54, 138, 0, 8)) I (zQf (k := 458) 10 zQd_14 rfl rfl) (k' := 459) rfl (by decide) (zcal54 (xs := []) (rest := []) (by omega) rfl rfl he0 rfl (Nat.le_of_ble_eq_true rfl) (M' := z_m138) rfl (Nat.le_of_ble_eq_true rfl)) (H 126 _ rfl) rfl (by show 2 + 1 ≤ d; omega) rfl (by decide +kernel) (by decide +kernel) (by decide +kernel) (by decide +kernel) ⟨⟨ax, 1, rfl, I.2.2.1, Int.le_refl _, Int.le_refl _⟩, trivial⟩ (fun ty1 h1 w1 x1 y1 I1 V1 cx1 cy1 l1 => ?_)
  have cx1 : x1 ≤ 0 := cx1
  have cy1 : y1 ≤ 0 := cy1
  match w1, V1 with
  | some w1, V1 =>
  obtain ⟨c1, rfl, -⟩ := V1
  show z_ok sx d 343 459 lo [.int c1] h1 _
  refine zpop (zQf (k := 459) 11 zQd_14 rfl rfl) (k' := 460) rfl ?_
  refine zh_ald zJ_343 (k' := 461) (zQf (k := 460) 12 zQd_14 rfl rfl) rfl Lv.2.2.1 ?_
  obtain ⟨fs1, he1, -⟩ := zcell0 (c := 9) (n := 23) I1.1 I1.2.2.2.1 rfl rfl rfl
  refine zlcon (ct := zC201) (as := [.ref am]) (i := (54, 279, 0, 9)) I1 (zQf (k := 461) 13 zQd_14 rfl rfl) (k' := 462) rfl (by decide) (zcal54 (xs := []) (rest := []) (by omega) rfl rfl he1 rfl (Nat.le_of_ble_eq_true rfl) (M' := z_m279) rfl (Nat.le_of_ble_eq_true rfl)) (H 201 _ rfl) rfl (by show 2 + 1 ≤ d; omega) rfl (by decide +kernel) (by decide +kernel) (by decide +kernel) (by decide +kernel) ⟨⟨am, 20, rfl, I1.2.2.2.1, Int.le_refl _, Int.le_refl _⟩, trivial⟩ (fun ty2 h2 w2 x2 y2 I2 V2 cx2 cy2 l2 => ?_)
  have cx2 : x2 ≤ 0 := cx2
  have cy2 : y2 ≤ 0 := cy2
  match w2, V2 with
  | some w2, V2 =>
  obtain ⟨c2, rfl, -⟩ := V2
  show z_ok sx d 343 462 lo [.int c2] h2 _
  refine zpop (zQf (k := 462) 14 zQd_14 rfl rfl) (k' := 463) rfl ?_
  refine zgoto (zQf (k := 463) 15 zQd_14 rfl rfl) ?_
  exact K.use I2 Lv (by omega) (by omega) (by omega)
set_option maxRecDepth 100000 in
theorem zcs_21 {sx : zX} {d : Nat} {ty : List Nat} {lo : zL} {h : zH} {Ψ : zO → zH → Nat → Nat → Prop} {ax am ao i : Nat} {N : Int} (H : ∀ (c : Nat) (c' : zCt), zCtl[c]? = some c' → zVd z_tt zE1 c') (hd : 60 ≤ d) (hi : i + 6 ≤ sx.1) (hL : sx.1 ≤ 3072) (hB : h.length + 6 ≤ zB) (I : zIw ty h ax am ao N) (Lv : zLv lo ax am ao i) (K : zKc sx d ax am ao i h Ψ) : z_ok sx d 343 464 lo [] h Ψ := by
  refine zh_ald zJ_343 (k' := 465) (zQf (k := 464) 16 zQd_14 rfl rfl) rfl Lv.2.1 ?_
  obtain ⟨fs0, he0, -⟩ := zcell0 (c := 8) (n := 8) I.1 I.2.2.1 rfl rfl rfl
  refine zlcon (ct := zC129) (as := [.ref ax]) (i := (54, 139, 0, 8)) I (zQf (k := 465) 17 zQd_14 rfl rfl) (k' := 466) rfl (by decide) (zcal54 (xs := []) (rest := []) (by omega) rfl rfl he0 rfl (Nat.le_of_ble_eq_true rfl) (M' := z_m139) rfl (Nat.le_of_ble_eq_true rfl)) (H 129 _ rfl) rfl (by show 7 + 1 ≤ d; omega) rfl (by decide +kernel) (by decide +kernel) (by decide +kernel) (by decide +kernel) ⟨⟨ax, 1, rfl, I.2.2.1, Int.le_refl _, Int.le_refl _⟩, trivial⟩ (fun ty1 h1 w1 x1 y1 I1 V1 cx1 cy1 l1 => ?_)
  have cx1 : x1 ≤ 0 := cx1
  have cy1 : y1 ≤ 0 := cy1
  match w1, V1 with
  | some w1, V1 =>
  obtain ⟨c1, rfl, -⟩ := V1
  show z_ok sx d 343 466 lo [.int c1] h1 _
  refine zpop (zQf (k := 466) 18 zQd_14 rfl rfl) (k' := 467) rfl ?_
  refine zh_ald zJ_343 (k' := 468) (zQf (k := 467) 19 zQd_14 rfl rfl) rfl Lv.2.2.1 ?_
  obtain ⟨fs1, he1, -⟩ := zcell0 (c := 9) (n := 23) I1.1 I1.2.2.2.1 rfl rfl rfl
  refine zlcon (ct := zC268) (as := [.ref am]) (i := (54, 288, 0, 9)) I1 (zQf (k := 468) 20 zQd_14 rfl rfl) (k' := 469) rfl (by decide) (zcal54 (xs := []) (rest := []) (by omega) rfl rfl he1 rfl (Nat.le_of_ble_eq_true rfl) (M' := z_m288) rfl (Nat.le_of_ble_eq_true rfl)) (H 268 _ rfl) rfl (by show 21 + 1 ≤ d; omega) rfl (by decide +kernel) (by decide +kernel) (by decide +kernel) (by decide +kernel) ⟨⟨am, 20, rfl, I1.2.2.2.1, Int.le_refl _, Int.le_refl _⟩, trivial⟩ (fun ty2 h2 w2 x2 y2 I2 V2 cx2 cy2 l2 => ?_)
  have cx2 : x2 ≤ 0 := cx2
  have cy2 : y2 ≤ 0 := cy2
  match w2, V2 with
  | some w2, V2 =>
  obtain ⟨c2, rfl, -⟩ := V2
  show z_ok sx d 343 469 lo [.int c2] h2 _
  refine zpop (zQf (k := 469) 21 zQd_14 rfl rfl) (k' := 470) rfl ?_
  refine zgoto (zQf (k := 470) 22 zQd_14 rfl rfl) ?_
  exact K.use I2 Lv (by omega) (by omega) (by omega)
set_option maxRecDepth 100000 in
theorem zcs_22 {sx : zX} {d : Nat} {ty : List Nat} {lo : zL} {h : zH} {Ψ : zO → zH → Nat → Nat → Prop} {ax am ao i : Nat} {N : Int} (H : ∀ (c : Nat) (c' : zCt), zCtl[c]? = some c' → zVd z_tt zE1 c') (hd : 60 ≤ d) (hi : i + 6 ≤ sx.1) (hL : sx.1 ≤ 3072) (hB : h.length + 6 ≤ zB) (I : zIw ty h ax am ao N) (Lv : zLv lo ax am ao i) (K : zKc sx d ax am ao i h Ψ) : z_ok sx d 343 471 lo [] h Ψ := by
  refine zh_ald zJ_343 (k' := 472) (zQf (k := 471) 23 zQd_14 rfl rfl) rfl Lv.2.1 ?_
  obtain ⟨fs0, he0, -⟩ := zcell0 (c := 8) (n := 8) I.1 I.2.2.1 rfl rfl rfl
  refine zlcon (ct := zC132) (as := [.ref ax]) (i := (54, 140, 0, 8)) I (zQf (k := 472) 24 zQd_14 rfl rfl) (k' := 473) rfl (by decide) (zcal54 (xs := []) (rest := []) (by omega) rfl rfl he0 rfl (Nat.le_of_ble_eq_true rfl) (M' := z_m140) rfl (Nat.le_of_ble_eq_true rfl)) (H 132 _ rfl) rfl (by show 5 + 1 ≤ d; omega) rfl (by decide +kernel) (by decide +kernel) (by decide +kernel) (by decide +kernel) ⟨⟨ax, 1, rfl, I.2.2.1, Int.le_refl _, Int.le_refl _⟩, trivial⟩ (fun ty1 h1 w1 x1 y1 I1 V1 cx1 cy1 l1 => ?_)
  have cx1 : x1 ≤ 0 := cx1
  have cy1 : y1 ≤ 0 := cy1
  match w1, V1 with
  | some w1, V1 =>
  obtain ⟨c1, rfl, -⟩ := V1
  show z_ok sx d 343 473 lo [.int c1] h1 _
  refine zpop (zQf (k := 473) 25 zQd_14 rfl rfl) (k' := 474) rfl ?_
  refine zh_ald zJ_343 (k' := 475) (zQf (k := 474) 26 zQd_14 rfl rfl) rfl Lv.2.2.1 ?_
  obtain ⟨fs1, he1, -⟩ := zcell0 (c := 9) (n := 23) I1.1 I1.2.2.2.1 rfl rfl rfl
  refine zlcon (ct := zC208) (as := [.ref am]) (i := (54, 290, 0, 9)) I1 (zQf (k := 475) 27 zQd_14 rfl rfl) (k' := 476) rfl (by decide) (zcal54 (xs := []) (rest := []) (by omega) rfl rfl he1 rfl (Nat.le_of_ble_eq_true rfl) (M' := z_m290) rfl (Nat.le_of_ble_eq_true rfl)) (H 208 _ rfl) rfl (by show 6 + 1 ≤ d; omega) rfl (by decide +kernel) (by decide +kernel) (by decide +kernel) (by decide +kernel) ⟨⟨am, 20, rfl, I1.2.2.2.1, Int.le_refl _, Int.le_refl _⟩, trivial⟩ (fun ty2 h2 w2 x2 y2 I2 V2 cx2 cy2 l2 => ?_)
  have cx2 : x2 ≤ 0 := cx2
  have cy2 : y2 ≤ 0 := cy2
  match w2, V2 with
  | some w2, V2 =>
  obtain ⟨c2, rfl, -⟩ := V2
  show z_ok sx d 343 476 lo [.int c2] h2 _
  refine zpop (zQf (k := 476) 28 zQd_14 rfl rfl) (k' := 477) rfl ?_
  refine zgoto (zQf (k := 477) 29 zQd_14 rfl rfl) ?_
  exact K.use I2 Lv (by omega) (by omega) (by omega)
set_option maxRecDepth 100000 in
theorem zcs_23 {sx : zX} {d : Nat} {ty : List Nat} {lo : zL} {h : zH} {Ψ : zO → zH → Nat → Nat → Prop} {ax am ao i : Nat} {N : Int} (H : ∀ (c : Nat) (c' : zCt), zCtl[c]? = some c' → zVd z_tt zE1 c') (hd : 60 ≤ d) (hi : i + 6 ≤ sx.1) (hL : sx.1 ≤ 3072) (hB : h.length + 6 ≤ zB) (I : zIw ty h ax am ao N) (Lv : zLv lo ax am ao i) (K : zKc sx d ax am ao i h Ψ) : z_ok sx d 343 478 lo [] h Ψ := by
  refine zh_ald zJ_343 (k' := 479) (zQf (k := 478) 30 zQd_14 rfl rfl) rfl Lv.2.1 ?_
  obtain ⟨fs0, he0, -⟩ := zcell0 (c := 8) (n := 8) I.1 I.2.2.1 rfl rfl rfl
  refine zlcon (ct := zC134) (as := [.ref ax]) (i := (54, 141, 0, 8)) I (zQf (k := 479) 31 zQd_14 rfl rfl) (k' := 480) rfl (by decide) (zcal54 (xs := []) (rest := []) (by omega) rfl rfl he0 rfl (Nat.le_of_ble_eq_true rfl) (M' := z_m141) rfl (Nat.le_of_ble_eq_true rfl)) (H 134 _ rfl) rfl (by show 3 + 1 ≤ d; omega) rfl (by decide +kernel) (by decide +kernel) (by decide +kernel) (by decide +kernel) ⟨⟨ax, 1, rfl, I.2.2.1, Int.le_refl _, Int.le_refl _⟩, trivial⟩ (fun ty1 h1 w1 x1 y1 I1 V1 cx1 cy1 l1 => ?_)
  have cx1 : x1 ≤ 0 := cx1
  have cy1 : y1 ≤ 0 := cy1
  match w1, V1 with
  | some w1, V1 =>
  obtain ⟨c1, rfl, -⟩ := V1
  show z_ok sx d 343 480 lo [.int c1] h1 _
  refine zpop (zQf (k := 480) 0 zQd_15 rfl rfl) (k' := 481) rfl ?_
  refine zh_ald zJ_343 (k' := 482) (zQf (k := 481) 1 zQd_15 rfl rfl) rfl Lv.2.2.1 ?_
  obtain ⟨fs1, he1, -⟩ := zcell0 (c := 9) (n := 23) I1.1 I1.2.2.2.1 rfl rfl rfl
  refine zlcon (ct := zC203) (as := [.ref am]) (i := (54, 281, 0, 9)) I1 (zQf (k := 482) 2 zQd_15 rfl rfl) (k' := 483) rfl (by decide) (zcal54 (xs := []) (rest := []) (by omega) rfl rfl he1 rfl (Nat.le_of_ble_eq_true rfl) (M' := z_m281) rfl (Nat.le_of_ble_eq_true rfl)) (H 203 _ rfl) rfl (by show 3 + 1 ≤ d; omega) rfl (by decide +kernel) (by decide +kernel) (by decide +kernel) (by decide +kernel) ⟨⟨am, 20, rfl, I1.2.2.2.1, Int.le_refl _, Int.le_refl _⟩, trivial⟩ (fun ty2 h2 w2 x2 y2 I2 V2 cx2 cy2 l2 => ?_)
  have cx2 : x2 ≤ 0 := cx2
  have cy2 : y2 ≤ 0 := cy2
  match w2, V2 with
  | some w2, V2 =>
  obtain ⟨c2, rfl, -⟩ := V2
  show z_ok sx d 343 483 lo [.int c2] h2 _
  refine zpop (zQf (k := 483) 3 zQd_15 rfl rfl) (k' := 484) rfl ?_
  refine zgoto (zQf (k := 484) 4 zQd_15 rfl rfl) ?_
  exact K.use I2 Lv (by omega) (by omega) (by omega)
