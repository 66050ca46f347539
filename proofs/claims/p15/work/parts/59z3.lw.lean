/-! the law's cases 24 to 35; printed with wip/gen/gen_law.py -/
set_option maxRecDepth 100000 in
theorem zcs_24 {sx : zX} {d : Nat} {ty : List Nat} {lo : zL} {h : zH} {Ψ : zO → zH → Nat → Nat → Prop} {ax am ao i : Nat} {N : Int} (H : ∀ (c : Nat) (c' : zCt), zCtl[c]? = some c' → zVd z_tt zE1 c') (hd : 60 ≤ d) (hi : i + 6 ≤ sx.1) (hL : sx.1 ≤ 3072) (hB : h.length + 6 ≤ zB) (I : zIw ty h ax am ao N) (Lv : zLv lo ax am ao i) (K : zKc sx d ax am ao i h Ψ) : z_ok sx d 343 485 lo [] h Ψ := by
  refine zh_ald zJ_343 (k' := 486) (zQf (k := 485) 5 zQd_15 rfl rfl) rfl Lv.2.1 ?_
  refine zscr 486 487 488 489 490 491 1 (zQf (k := 486) 6 zQd_15 rfl rfl) (zQf (k := 487) 7 zQd_15 rfl rfl) (zQf (k := 488) 8 zQd_15 rfl rfl) (zQf (k := 489) 9 zQd_15 rfl rfl) (zQf (k := 490) 10 zQd_15 rfl rfl) rfl rfl rfl rfl rfl rfl (by omega) Lv hi hL (fun v0 ev0 => ?_)
  obtain ⟨fs0, he0, -⟩ := zcell0 (c := 8) (n := 8) I.1 I.2.2.1 rfl rfl rfl
  refine zlcon (ct := zC136) (as := [.ref ax, .int v0]) (i := (54, 142, 1, 8)) I (zQf (k := 491) 11 zQd_15 rfl rfl) (k' := 492) rfl (by decide) (zcal54 (xs := [.int v0]) (rest := []) (by omega) rfl rfl he0 rfl (Nat.le_of_ble_eq_true rfl) (M' := z_m142) rfl (Nat.le_of_ble_eq_true rfl)) (H 136 _ rfl) rfl (by show 2 + 1 ≤ d; omega) rfl (by decide +kernel) (by decide +kernel) (by decide +kernel) (by decide +kernel) ⟨⟨ax, 1, rfl, I.2.2.1, Int.le_refl _, Int.le_refl _⟩, zFull_ok _, trivial⟩ (fun ty1 h1 w1 x1 y1 I1 V1 cx1 cy1 l1 => ?_)
  have cx1 : x1 ≤ 0 := cx1
  have cy1 : y1 ≤ 0 := cy1
  match w1, V1 with
  | some w1, V1 =>
  obtain ⟨c1, rfl, -⟩ := V1
  show z_ok sx d 343 492 lo [.int c1] h1 _
  refine zpop (zQf (k := 492) 12 zQd_15 rfl rfl) (k' := 493) rfl ?_
  refine zh_ald zJ_343 (k' := 494) (zQf (k := 493) 13 zQd_15 rfl rfl) rfl Lv.2.2.1 ?_
  refine zscr 494 495 496 497 498 499 1 (zQf (k := 494) 14 zQd_15 rfl rfl) (zQf (k := 495) 15 zQd_15 rfl rfl) (zQf (k := 496) 16 zQd_15 rfl rfl) (zQf (k := 497) 17 zQd_15 rfl rfl) (zQf (k := 498) 18 zQd_15 rfl rfl) rfl rfl rfl rfl rfl rfl (by omega) Lv hi hL (fun v1 ev1 => ?_)
  obtain ⟨fs1, he1, -⟩ := zcell0 (c := 9) (n := 23) I1.1 I1.2.2.2.1 rfl rfl rfl
  refine zlcon (ct := zC210) (as := [.ref am, .int v1]) (i := (54, 293, 1, 9)) I1 (zQf (k := 499) 19 zQd_15 rfl rfl) (k' := 500) rfl (by decide) (zcal54 (xs := [.int v1]) (rest := []) (by omega) rfl rfl he1 rfl (Nat.le_of_ble_eq_true rfl) (M' := z_m293) rfl (Nat.le_of_ble_eq_true rfl)) (H 210 _ rfl) rfl (by show 4 + 1 ≤ d; omega) rfl (by decide +kernel) (by decide +kernel) (by decide +kernel) (by decide +kernel) ⟨⟨am, 20, rfl, I1.2.2.2.1, Int.le_refl _, Int.le_refl _⟩, zFull_ok _, trivial⟩ (fun ty2 h2 w2 x2 y2 I2 V2 cx2 cy2 l2 => ?_)
  have cx2 : x2 ≤ 0 := cx2
  have cy2 : y2 ≤ 0 := cy2
  match w2, V2 with
  | some w2, V2 =>
  obtain ⟨c2, rfl, -⟩ := V2
  show z_ok sx d 343 500 lo [.int c2] h2 _
  refine zpop (zQf (k := 500) 20 zQd_15 rfl rfl) (k' := 501) rfl ?_
  refine zgoto (zQf (k := 501) 21 zQd_15 rfl rfl) ?_
  exact K.use I2 Lv (by omega) (by omega) (by omega)
set_option maxRecDepth 100000 in
theorem zcs_25 {sx : zX} {d : Nat} {ty : List Nat} {lo : zL} {h : zH} {Ψ : zO → zH → Nat → Nat → Prop} {ax am ao i : Nat} {N : Int} (H : ∀ (c : Nat) (c' : zCt), zCtl[c]? = some c' → zVd z_tt zE1 c') (hd : 60 ≤ d) (hi : i + 6 ≤ sx.1) (hL : sx.1 ≤ 3072) (hB : h.length + 6 ≤ zB) (I : zIw ty h ax am ao N) (Lv : zLv lo ax am ao i) (K : zKc sx d ax am ao i h Ψ) : z_ok sx d 343 502 lo [] h Ψ := by
  refine zh_ald zJ_343 (k' := 503) (zQf (k := 502) 22 zQd_15 rfl rfl) rfl Lv.2.1 ?_
  refine zscr 503 504 505 506 507 508 1 (zQf (k := 503) 23 zQd_15 rfl rfl) (zQf (k := 504) 24 zQd_15 rfl rfl) (zQf (k := 505) 25 zQd_15 rfl rfl) (zQf (k := 506) 26 zQd_15 rfl rfl) (zQf (k := 507) 27 zQd_15 rfl rfl) rfl rfl rfl rfl rfl rfl (by omega) Lv hi hL (fun v0 ev0 => ?_)
  refine zscr 508 509 510 511 512 513 2 (zQf (k := 508) 28 zQd_15 rfl rfl) (zQf (k := 509) 29 zQd_15 rfl rfl) (zQf (k := 510) 30 zQd_15 rfl rfl) (zQf (k := 511) 31 zQd_15 rfl rfl) (zQf (k := 512) 0 zQd_16 rfl rfl) rfl rfl rfl rfl rfl rfl (by omega) Lv hi hL (fun v1 ev1 => ?_)
  refine zh_ald zJ_343 (k' := 514) (zQf (k := 513) 1 zQd_16 rfl rfl) rfl Lv.2.2.2.1 ?_
  refine zlcon (ct := zC289) (as := [.ref ax, .int v0, .int v1, .ref ao]) (i := (72, 330, 4, 0)) I (zQf (k := 514) 2 zQd_16 rfl rfl) (k' := 515) rfl (by decide) (zcal72 (xs := [.ref ao, .int v1, .int v0, .ref ax]) (rest := []) (by omega) rfl rfl (Nat.le_of_ble_eq_true rfl) (M' := z_m330) rfl (Nat.le_of_ble_eq_true rfl)) (H 289 _ rfl) rfl (by show 8 + 1 ≤ d; omega) rfl (by decide +kernel) (by decide +kernel) (by decide +kernel) (by decide +kernel) ⟨⟨ax, 1, rfl, I.2.2.1, Int.le_refl _, Int.le_refl _⟩, zFull_ok _, zFull_ok _, ⟨ao, 33, rfl, I.2.2.2.2.1, Int.le_refl _, Int.le_refl _⟩, trivial⟩ (fun ty1 h1 w1 x1 y1 I1 V1 cx1 cy1 l1 => ?_)
  have cx1 : x1 ≤ 1 := cx1
  have cy1 : y1 ≤ 6 := cy1
  match w1, V1 with
  | some w1, V1 =>
  obtain ⟨c1, rfl, -⟩ := V1
  show z_ok sx d 343 515 lo [.int c1] h1 _
  refine zh_ist zJ_343 (a := 5) (b := 0) (z := 0) (zQf (k := 515) 3 zQd_16 rfl rfl) (k' := 516) rfl ?_
  refine zh_ald zJ_343 (k' := 517) (zQf (k := 516) 4 zQd_16 rfl rfl) rfl (Lv.set (b := 5) (v := c1) (by omega)).2.2.1 ?_
  refine zscr 517 518 519 520 521 522 1 (zQf (k := 517) 5 zQd_16 rfl rfl) (zQf (k := 518) 6 zQd_16 rfl rfl) (zQf (k := 519) 7 zQd_16 rfl rfl) (zQf (k := 520) 8 zQd_16 rfl rfl) (zQf (k := 521) 9 zQd_16 rfl rfl) rfl rfl rfl rfl rfl rfl (by omega) (Lv.set (b := 5) (v := c1) (by omega)) hi hL (fun v2 ev2 => ?_)
  refine zscr 522 523 524 525 526 527 2 (zQf (k := 522) 10 zQd_16 rfl rfl) (zQf (k := 523) 11 zQd_16 rfl rfl) (zQf (k := 524) 12 zQd_16 rfl rfl) (zQf (k := 525) 13 zQd_16 rfl rfl) (zQf (k := 526) 14 zQd_16 rfl rfl) rfl rfl rfl rfl rfl rfl (by omega) (Lv.set (b := 5) (v := c1) (by omega)) hi hL (fun v3 ev3 => ?_)
  obtain ⟨fs1, he1, -⟩ := zcell0 (c := 9) (n := 23) I1.1 I1.2.2.2.1 rfl rfl rfl
  refine zlcon (ct := zC213) (as := [.ref am, .int v2, .int v3]) (i := (54, 295, 2, 9)) I1 (zQf (k := 527) 15 zQd_16 rfl rfl) (k' := 528) rfl (by decide) (zcal54 (xs := [.int v3, .int v2]) (rest := []) (by omega) rfl rfl he1 rfl (Nat.le_of_ble_eq_true rfl) (M' := z_m295) rfl (Nat.le_of_ble_eq_true rfl)) (H 213 _ rfl) rfl (by show 4 + 1 ≤ d; omega) rfl (by decide +kernel) (by decide +kernel) (by decide +kernel) (by decide +kernel) ⟨⟨am, 20, rfl, I1.2.2.2.1, Int.le_refl _, Int.le_refl _⟩, zFull_ok _, zFull_ok _, trivial⟩ (fun ty2 h2 w2 x2 y2 I2 V2 cx2 cy2 l2 => ?_)
  have cx2 : x2 ≤ 0 := cx2
  have cy2 : y2 ≤ 0 := cy2
  match w2, V2 with
  | some w2, V2 =>
  obtain ⟨c2, rfl, -⟩ := V2
  show z_ok sx d 343 528 (z_set1 lo 5 (.int c1)) [.int c2] h2 _
  refine zh_ist zJ_343 (a := 6) (b := 0) (z := 0) (zQf (k := 528) 16 zQd_16 rfl rfl) (k' := 529) rfl ?_
  refine zgoto (zQf (k := 529) 17 zQd_16 rfl rfl) ?_
  exact K.use I2 ((Lv.set (b := 5) (v := c1) (by omega)).set (b := 6) (v := c2) (by omega)) (by omega) (by omega) (by omega)
set_option maxRecDepth 100000 in
theorem zcs_26 {sx : zX} {d : Nat} {ty : List Nat} {lo : zL} {h : zH} {Ψ : zO → zH → Nat → Nat → Prop} {ax am ao i : Nat} {N : Int} (H : ∀ (c : Nat) (c' : zCt), zCtl[c]? = some c' → zVd z_tt zE1 c') (hd : 60 ≤ d) (hi : i + 6 ≤ sx.1) (hL : sx.1 ≤ 3072) (hB : h.length + 6 ≤ zB) (I : zIw ty h ax am ao N) (Lv : zLv lo ax am ao i) (K : zKc sx d ax am ao i h Ψ) : z_ok sx d 343 530 lo [] h Ψ := by
  refine zh_ald zJ_343 (k' := 531) (zQf (k := 530) 18 zQd_16 rfl rfl) rfl Lv.2.1 ?_
  refine zscr 531 532 533 534 535 536 1 (zQf (k := 531) 19 zQd_16 rfl rfl) (zQf (k := 532) 20 zQd_16 rfl rfl) (zQf (k := 533) 21 zQd_16 rfl rfl) (zQf (k := 534) 22 zQd_16 rfl rfl) (zQf (k := 535) 23 zQd_16 rfl rfl) rfl rfl rfl rfl rfl rfl (by omega) Lv hi hL (fun v0 ev0 => ?_)
  refine zh_ald zJ_343 (k' := 537) (zQf (k := 536) 24 zQd_16 rfl rfl) rfl Lv.2.2.2.1 ?_
  refine zlcon (ct := zC290) (as := [.ref ax, .int v0, .ref ao]) (i := (72, 331, 3, 0)) I (zQf (k := 537) 25 zQd_16 rfl rfl) (k' := 538) rfl (by decide) (zcal72 (xs := [.ref ao, .int v0, .ref ax]) (rest := []) (by omega) rfl rfl (Nat.le_of_ble_eq_true rfl) (M' := z_m331) rfl (Nat.le_of_ble_eq_true rfl)) (H 290 _ rfl) rfl (by show 8 + 1 ≤ d; omega) rfl (by decide +kernel) (by decide +kernel) (by decide +kernel) (by decide +kernel) ⟨⟨ax, 1, rfl, I.2.2.1, Int.le_refl _, Int.le_refl _⟩, zFull_ok _, ⟨ao, 33, rfl, I.2.2.2.2.1, Int.le_refl _, Int.le_refl _⟩, trivial⟩ (fun ty1 h1 w1 x1 y1 I1 V1 cx1 cy1 l1 => ?_)
  have cx1 : x1 ≤ 1 := cx1
  have cy1 : y1 ≤ 6 := cy1
  match w1, V1 with
  | some w1, V1 =>
  obtain ⟨c1, rfl, -⟩ := V1
  show z_ok sx d 343 538 lo [.int c1] h1 _
  refine zh_ist zJ_343 (a := 5) (b := 0) (z := 0) (zQf (k := 538) 26 zQd_16 rfl rfl) (k' := 539) rfl ?_
  refine zh_ald zJ_343 (k' := 540) (zQf (k := 539) 27 zQd_16 rfl rfl) rfl (Lv.set (b := 5) (v := c1) (by omega)).2.2.1 ?_
  refine zscr 540 541 542 543 544 545 1 (zQf (k := 540) 28 zQd_16 rfl rfl) (zQf (k := 541) 29 zQd_16 rfl rfl) (zQf (k := 542) 30 zQd_16 rfl rfl) (zQf (k := 543) 31 zQd_16 rfl rfl) (zQf (k := 544) 0 zQd_17 rfl rfl) rfl rfl rfl rfl rfl rfl (by omega) (Lv.set (b := 5) (v := c1) (by omega)) hi hL (fun v1 ev1 => ?_)
  obtain ⟨fs1, he1, -⟩ := zcell0 (c := 9) (n := 23) I1.1 I1.2.2.2.1 rfl rfl rfl
  refine zlcon (ct := zC205) (as := [.ref am, .int v1]) (i := (54, 283, 1, 9)) I1 (zQf (k := 545) 1 zQd_17 rfl rfl) (k' := 546) rfl (by decide) (zcal54 (xs := [.int v1]) (rest := []) (by omega) rfl rfl he1 rfl (Nat.le_of_ble_eq_true rfl) (M' := z_m283) rfl (Nat.le_of_ble_eq_true rfl)) (H 205 _ rfl) rfl (by show 3 + 1 ≤ d; omega) rfl (by decide +kernel) (by decide +kernel) (by decide +kernel) (by decide +kernel) ⟨⟨am, 20, rfl, I1.2.2.2.1, Int.le_refl _, Int.le_refl _⟩, zFull_ok _, trivial⟩ (fun ty2 h2 w2 x2 y2 I2 V2 cx2 cy2 l2 => ?_)
  have cx2 : x2 ≤ 0 := cx2
  have cy2 : y2 ≤ 0 := cy2
  match w2, V2 with
  | some w2, V2 =>
  obtain ⟨c2, rfl, -⟩ := V2
  show z_ok sx d 343 546 (z_set1 lo 5 (.int c1)) [.int c2] h2 _
  refine zh_ist zJ_343 (a := 6) (b := 0) (z := 0) (zQf (k := 546) 2 zQd_17 rfl rfl) (k' := 547) rfl ?_
  refine zgoto (zQf (k := 547) 3 zQd_17 rfl rfl) ?_
  exact K.use I2 ((Lv.set (b := 5) (v := c1) (by omega)).set (b := 6) (v := c2) (by omega)) (by omega) (by omega) (by omega)
set_option maxRecDepth 100000 in
theorem zcs_27 {sx : zX} {d : Nat} {ty : List Nat} {lo : zL} {h : zH} {Ψ : zO → zH → Nat → Nat → Prop} {ax am ao i : Nat} {N : Int} (H : ∀ (c : Nat) (c' : zCt), zCtl[c]? = some c' → zVd z_tt zE1 c') (hd : 60 ≤ d) (hi : i + 6 ≤ sx.1) (hL : sx.1 ≤ 3072) (hB : h.length + 6 ≤ zB) (I : zIw ty h ax am ao N) (Lv : zLv lo ax am ao i) (K : zKc sx d ax am ao i h Ψ) : z_ok sx d 343 548 lo [] h Ψ := by
  refine zh_ald zJ_343 (k' := 549) (zQf (k := 548) 4 zQd_17 rfl rfl) rfl Lv.2.1 ?_
  refine zscr 549 550 551 552 553 554 1 (zQf (k := 549) 5 zQd_17 rfl rfl) (zQf (k := 550) 6 zQd_17 rfl rfl) (zQf (k := 551) 7 zQd_17 rfl rfl) (zQf (k := 552) 8 zQd_17 rfl rfl) (zQf (k := 553) 9 zQd_17 rfl rfl) rfl rfl rfl rfl rfl rfl (by omega) Lv hi hL (fun v0 ev0 => ?_)
  refine zscr 554 555 556 557 558 559 2 (zQf (k := 554) 10 zQd_17 rfl rfl) (zQf (k := 555) 11 zQd_17 rfl rfl) (zQf (k := 556) 12 zQd_17 rfl rfl) (zQf (k := 557) 13 zQd_17 rfl rfl) (zQf (k := 558) 14 zQd_17 rfl rfl) rfl rfl rfl rfl rfl rfl (by omega) Lv hi hL (fun v1 ev1 => ?_)
  refine zscr 559 560 561 562 563 564 3 (zQf (k := 559) 15 zQd_17 rfl rfl) (zQf (k := 560) 16 zQd_17 rfl rfl) (zQf (k := 561) 17 zQd_17 rfl rfl) (zQf (k := 562) 18 zQd_17 rfl rfl) (zQf (k := 563) 19 zQd_17 rfl rfl) rfl rfl rfl rfl rfl rfl (by omega) Lv hi hL (fun v2 ev2 => ?_)
  refine zh_ald zJ_343 (k' := 565) (zQf (k := 564) 20 zQd_17 rfl rfl) rfl Lv.2.2.2.1 ?_
  refine zlcon (ct := zC291) (as := [.ref ax, .int v0, .int v1, .int v2, .ref ao]) (i := (72, 332, 5, 0)) I (zQf (k := 565) 21 zQd_17 rfl rfl) (k' := 566) rfl (by decide) (zcal72 (xs := [.ref ao, .int v2, .int v1, .int v0, .ref ax]) (rest := []) (by omega) rfl rfl (Nat.le_of_ble_eq_true rfl) (M' := z_m332) rfl (Nat.le_of_ble_eq_true rfl)) (H 291 _ rfl) rfl (by show 8 + 1 ≤ d; omega) rfl (by decide +kernel) (by decide +kernel) (by decide +kernel) (by decide +kernel) ⟨⟨ax, 1, rfl, I.2.2.1, Int.le_refl _, Int.le_refl _⟩, zFull_ok _, zFull_ok _, zFull_ok _, ⟨ao, 33, rfl, I.2.2.2.2.1, Int.le_refl _, Int.le_refl _⟩, trivial⟩ (fun ty1 h1 w1 x1 y1 I1 V1 cx1 cy1 l1 => ?_)
  have cx1 : x1 ≤ 1 := cx1
  have cy1 : y1 ≤ 6 := cy1
  match w1, V1 with
  | some w1, V1 =>
  obtain ⟨c1, rfl, -⟩ := V1
  show z_ok sx d 343 566 lo [.int c1] h1 _
  refine zh_ist zJ_343 (a := 5) (b := 0) (z := 0) (zQf (k := 566) 22 zQd_17 rfl rfl) (k' := 567) rfl ?_
  refine zh_ald zJ_343 (k' := 568) (zQf (k := 567) 23 zQd_17 rfl rfl) rfl (Lv.set (b := 5) (v := c1) (by omega)).2.2.1 ?_
  refine zscr 568 569 570 571 572 573 1 (zQf (k := 568) 24 zQd_17 rfl rfl) (zQf (k := 569) 25 zQd_17 rfl rfl) (zQf (k := 570) 26 zQd_17 rfl rfl) (zQf (k := 571) 27 zQd_17 rfl rfl) (zQf (k := 572) 28 zQd_17 rfl rfl) rfl rfl rfl rfl rfl rfl (by omega) (Lv.set (b := 5) (v := c1) (by omega)) hi hL (fun v3 ev3 => ?_)
  refine zscr 573 574 575 576 577 578 2 (zQf (k := 573) 29 zQd_17 rfl rfl) (zQf (k := 574) 30 zQd_17 rfl rfl) (zQf (k := 575) 31 zQd_17 rfl rfl) (zQf (k := 576) 0 zQd_18 rfl rfl) (zQf (k := 577) 1 zQd_18 rfl rfl) rfl rfl rfl rfl rfl rfl (by omega) (Lv.set (b := 5) (v := c1) (by omega)) hi hL (fun v4 ev4 => ?_)
  refine zscr 578 579 580 581 582 583 3 (zQf (k := 578) 2 zQd_18 rfl rfl) (zQf (k := 579) 3 zQd_18 rfl rfl) (zQf (k := 580) 4 zQd_18 rfl rfl) (zQf (k := 581) 5 zQd_18 rfl rfl) (zQf (k := 582) 6 zQd_18 rfl rfl) rfl rfl rfl rfl rfl rfl (by omega) (Lv.set (b := 5) (v := c1) (by omega)) hi hL (fun v5 ev5 => ?_)
  obtain ⟨fs1, he1, -⟩ := zcell0 (c := 9) (n := 23) I1.1 I1.2.2.2.1 rfl rfl rfl
  refine zlcon (ct := zC214) (as := [.ref am, .int v3, .int v4, .int v5]) (i := (54, 297, 3, 9)) I1 (zQf (k := 583) 7 zQd_18 rfl rfl) (k' := 584) rfl (by decide) (zcal54 (xs := [.int v5, .int v4, .int v3]) (rest := []) (by omega) rfl rfl he1 rfl (Nat.le_of_ble_eq_true rfl) (M' := z_m297) rfl (Nat.le_of_ble_eq_true rfl)) (H 214 _ rfl) rfl (by show 4 + 1 ≤ d; omega) rfl (by decide +kernel) (by decide +kernel) (by decide +kernel) (by decide +kernel) ⟨⟨am, 20, rfl, I1.2.2.2.1, Int.le_refl _, Int.le_refl _⟩, zFull_ok _, zFull_ok _, zFull_ok _, trivial⟩ (fun ty2 h2 w2 x2 y2 I2 V2 cx2 cy2 l2 => ?_)
  have cx2 : x2 ≤ 0 := cx2
  have cy2 : y2 ≤ 0 := cy2
  match w2, V2 with
  | some w2, V2 =>
  obtain ⟨c2, rfl, -⟩ := V2
  show z_ok sx d 343 584 (z_set1 lo 5 (.int c1)) [.int c2] h2 _
  refine zh_ist zJ_343 (a := 6) (b := 0) (z := 0) (zQf (k := 584) 8 zQd_18 rfl rfl) (k' := 585) rfl ?_
  refine zgoto (zQf (k := 585) 9 zQd_18 rfl rfl) ?_
  exact K.use I2 ((Lv.set (b := 5) (v := c1) (by omega)).set (b := 6) (v := c2) (by omega)) (by omega) (by omega) (by omega)
set_option maxRecDepth 100000 in
theorem zcs_28 {sx : zX} {d : Nat} {ty : List Nat} {lo : zL} {h : zH} {Ψ : zO → zH → Nat → Nat → Prop} {ax am ao i : Nat} {N : Int} (H : ∀ (c : Nat) (c' : zCt), zCtl[c]? = some c' → zVd z_tt zE1 c') (hd : 60 ≤ d) (hi : i + 6 ≤ sx.1) (hL : sx.1 ≤ 3072) (hB : h.length + 6 ≤ zB) (I : zIw ty h ax am ao N) (Lv : zLv lo ax am ao i) (K : zKc sx d ax am ao i h Ψ) : z_ok sx d 343 586 lo [] h Ψ := by
  refine zh_ald zJ_343 (k' := 587) (zQf (k := 586) 10 zQd_18 rfl rfl) rfl Lv.2.1 ?_
  refine zscr 587 588 589 590 591 592 1 (zQf (k := 587) 11 zQd_18 rfl rfl) (zQf (k := 588) 12 zQd_18 rfl rfl) (zQf (k := 589) 13 zQd_18 rfl rfl) (zQf (k := 590) 14 zQd_18 rfl rfl) (zQf (k := 591) 15 zQd_18 rfl rfl) rfl rfl rfl rfl rfl rfl (by omega) Lv hi hL (fun v0 ev0 => ?_)
  refine zboo 592 593 594 595 596 (zQf (k := 592) 16 zQd_18 rfl rfl) (zQf (k := 593) 17 zQd_18 rfl rfl) (zQf (k := 594) 18 zQd_18 rfl rfl) (zQf (k := 595) 19 zQd_18 rfl rfl) rfl rfl rfl (fun v1 hv1 ev1 => ?_)
  refine zh_ald zJ_343 (k' := 597) (zQf (k := 596) 20 zQd_18 rfl rfl) rfl Lv.2.2.2.1 ?_
  refine zlrun (as := [.ref ax, .int v1, .ref ao]) (i := (72, 333, 3, 0)) (zQf (k := 597) 21 zQd_18 rfl rfl) (k' := 598) rfl (by decide) (zcal72 (xs := [.ref ao, .int v1, .ref ax]) (rest := []) (by omega) rfl rfl (Nat.le_of_ble_eq_true rfl) (M' := z_m333) rfl (Nat.le_of_ble_eq_true rfl)) (z_ok.lenq (by decide +kernel) (zS_333 (sx := sx) (d := d - 1) (fun c hc c' hc' => H c c' hc') (by omega) hv1 I.1 I.2.1 I.2.2.1 I.2.2.2.2.1)) (fun o1 h1 x1 y1 q1 l1 => ?_)
  obtain ⟨⟨c1, ty1, rfl, X1, T1, E1, F1, P1, cx1, cy1⟩, hq1⟩ := q1
  have ha1 := X1 ax 1 I.2.2.1
  have hm1 := X1 am 20 I.2.2.2.1
  have ho1 := X1 ao 33 I.2.2.2.2.1
  have Lx1 := I.lx.keep I.1 T1 X1 F1 (by decide +kernel)
  have Lt1 := I.lt.keep I.1 T1 X1 hq1
  have Hd1 := I.hd.keep I.1 T1 I.lx.2.1 X1 I.lt F1 hq1 (by decide +kernel)
  refine ⟨_, rfl, ?_⟩
  show z_ok sx d 343 598 lo [.int c1] h1 _
  refine zh_ist zJ_343 (a := 5) (b := 0) (z := 0) (zQf (k := 598) 22 zQd_18 rfl rfl) (k' := 599) rfl ?_
  refine zh_ald zJ_343 (k' := 600) (zQf (k := 599) 23 zQd_18 rfl rfl) rfl (Lv.set (b := 5) (v := c1) (by omega)).2.2.1 ?_
  refine zscr 600 601 602 603 604 605 1 (zQf (k := 600) 24 zQd_18 rfl rfl) (zQf (k := 601) 25 zQd_18 rfl rfl) (zQf (k := 602) 26 zQd_18 rfl rfl) (zQf (k := 603) 27 zQd_18 rfl rfl) (zQf (k := 604) 28 zQd_18 rfl rfl) rfl rfl rfl rfl rfl rfl (by omega) (Lv.set (b := 5) (v := c1) (by omega)) hi hL (fun v2 ev2 => ?_)
  refine zboo 605 606 607 608 609 (zQf (k := 605) 29 zQd_18 rfl rfl) (zQf (k := 606) 30 zQd_18 rfl rfl) (zQf (k := 607) 31 zQd_18 rfl rfl) (zQf (k := 608) 0 zQd_19 rfl rfl) rfl rfl rfl (fun v3 hv3 ev3 => ?_)
  obtain ⟨fs1, he1, -⟩ := zcell0 (c := 9) (n := 23) T1 hm1 rfl rfl rfl
  refine zlrun (as := [.ref am, .int v3]) (i := (54, 299, 1, 9)) (zQf (k := 609) 1 zQd_19 rfl rfl) (k' := 610) rfl (by decide) (zcal54 (xs := [.int v3]) (rest := []) (by omega) rfl rfl he1 rfl (Nat.le_of_ble_eq_true rfl) (M' := z_m299) rfl (Nat.le_of_ble_eq_true rfl)) (z_ok.lenq (by decide +kernel) (zS_299 (sx := sx) (d := d - 1) (fun c hc c' hc' => H c c' hc') (by omega) T1 E1 hm1 hv3)) (fun o2 h2 x2 y2 q2 l2 => ?_)
  obtain ⟨⟨w2, rfl, rfl, rfl, ⟨c2, rfl⟩, ty2, X2, T2, E2, F2, N2⟩, hq2⟩ := q2
  have Lx2 := Lx1.keep T1 T2 X2 F2 (by decide +kernel)
  have Lt2 := Lt1.keep T1 T2 X2 hq2
  have Hd2 := Hd1.keep T1 T2 Lx1.2.1 X2 Lt1 F2 hq2 (by decide +kernel)
  refine ⟨_, rfl, ?_⟩
  have I2 : zIw ty2 h2 ax am ao 0 := ⟨T2, E2, X2 ax 1 ha1, X2 am 20 hm1, X2 ao 33 ho1, P1.keep ha1 T2 X2 F2 (zNin _ _ _ (by decide +kernel)) (zNin _ _ _ (by decide +kernel)), N2.mp, by decide, by decide, Lx2, Lt2, Hd2⟩
  show z_ok sx d 343 610 (z_set1 lo 5 (.int c1)) [.int c2] h2 _
  refine zh_ist zJ_343 (a := 6) (b := 0) (z := 0) (zQf (k := 610) 2 zQd_19 rfl rfl) (k' := 611) rfl ?_
  refine zgoto (zQf (k := 611) 3 zQd_19 rfl rfl) ?_
  exact K.use I2 ((Lv.set (b := 5) (v := c1) (by omega)).set (b := 6) (v := c2) (by omega)) (by omega) (by omega) (by omega)
set_option maxRecDepth 100000 in
theorem zcs_29 {sx : zX} {d : Nat} {ty : List Nat} {lo : zL} {h : zH} {Ψ : zO → zH → Nat → Nat → Prop} {ax am ao i : Nat} {N : Int} (H : ∀ (c : Nat) (c' : zCt), zCtl[c]? = some c' → zVd z_tt zE1 c') (hd : 60 ≤ d) (hi : i + 6 ≤ sx.1) (hL : sx.1 ≤ 3072) (hB : h.length + 6 ≤ zB) (I : zIw ty h ax am ao N) (Lv : zLv lo ax am ao i) (K : zKc sx d ax am ao i h Ψ) : z_ok sx d 343 612 lo [] h Ψ := by
  refine zh_ald zJ_343 (k' := 613) (zQf (k := 612) 4 zQd_19 rfl rfl) rfl Lv.2.1 ?_
  obtain ⟨fs0, he0, -⟩ := zcell0 (c := 8) (n := 8) I.1 I.2.2.1 rfl rfl rfl
  refine zlcon (ct := zC153) (as := [.ref ax]) (i := (54, 147, 0, 8)) I (zQf (k := 613) 5 zQd_19 rfl rfl) (k' := 614) rfl (by decide) (zcal54 (xs := []) (rest := []) (by omega) rfl rfl he0 rfl (Nat.le_of_ble_eq_true rfl) (M' := z_m147) rfl (Nat.le_of_ble_eq_true rfl)) (H 153 _ rfl) rfl (by show 2 + 1 ≤ d; omega) rfl (by decide +kernel) (by decide +kernel) (by decide +kernel) (by decide +kernel) ⟨⟨ax, 1, rfl, I.2.2.1, Int.le_refl _, Int.le_refl _⟩, trivial⟩ (fun ty1 h1 w1 x1 y1 I1 V1 cx1 cy1 l1 => ?_)
  have cx1 : x1 ≤ 0 := cx1
  have cy1 : y1 ≤ 0 := cy1
  match w1, V1 with
  | some w1, V1 =>
  obtain ⟨c1, rfl, -⟩ := V1
  show z_ok sx d 343 614 lo [.int c1] h1 _
  refine zpop (zQf (k := 614) 6 zQd_19 rfl rfl) (k' := 615) rfl ?_
  refine zh_ald zJ_343 (k' := 616) (zQf (k := 615) 7 zQd_19 rfl rfl) rfl Lv.2.2.1 ?_
  obtain ⟨fs1, he1, -⟩ := zcell0 (c := 9) (n := 23) I1.1 I1.2.2.2.1 rfl rfl rfl
  refine zlcon (ct := zC217) (as := [.ref am]) (i := (54, 300, 0, 9)) I1 (zQf (k := 616) 8 zQd_19 rfl rfl) (k' := 617) rfl (by decide) (zcal54 (xs := []) (rest := []) (by omega) rfl rfl he1 rfl (Nat.le_of_ble_eq_true rfl) (M' := z_m300) rfl (Nat.le_of_ble_eq_true rfl)) (H 217 _ rfl) rfl (by show 3 + 1 ≤ d; omega) rfl (by decide +kernel) (by decide +kernel) (by decide +kernel) (by decide +kernel) ⟨⟨am, 20, rfl, I1.2.2.2.1, Int.le_refl _, Int.le_refl _⟩, trivial⟩ (fun ty2 h2 w2 x2 y2 I2 V2 cx2 cy2 l2 => ?_)
  have cx2 : x2 ≤ 0 := cx2
  have cy2 : y2 ≤ 0 := cy2
  match w2, V2 with
  | some w2, V2 =>
  obtain ⟨c2, rfl, -⟩ := V2
  show z_ok sx d 343 617 lo [.int c2] h2 _
  refine zpop (zQf (k := 617) 9 zQd_19 rfl rfl) (k' := 618) rfl ?_
  refine zgoto (zQf (k := 618) 10 zQd_19 rfl rfl) ?_
  exact K.use I2 Lv (by omega) (by omega) (by omega)
set_option maxRecDepth 100000 in
theorem zcs_30 {sx : zX} {d : Nat} {ty : List Nat} {lo : zL} {h : zH} {Ψ : zO → zH → Nat → Nat → Prop} {ax am ao i : Nat} {N : Int} (H : ∀ (c : Nat) (c' : zCt), zCtl[c]? = some c' → zVd z_tt zE1 c') (hd : 60 ≤ d) (hi : i + 6 ≤ sx.1) (hL : sx.1 ≤ 3072) (hB : h.length + 6 ≤ zB) (I : zIw ty h ax am ao N) (Lv : zLv lo ax am ao i) (K : zKc sx d ax am ao i h Ψ) : z_ok sx d 343 619 lo [] h Ψ := by
  refine zh_ald zJ_343 (k' := 620) (zQf (k := 619) 11 zQd_19 rfl rfl) rfl Lv.2.1 ?_
  obtain ⟨fs0, he0, -⟩ := zcell0 (c := 8) (n := 8) I.1 I.2.2.1 rfl rfl rfl
  refine zlcon (ct := zC155) (as := [.ref ax]) (i := (54, 148, 0, 8)) I (zQf (k := 620) 12 zQd_19 rfl rfl) (k' := 621) rfl (by decide) (zcal54 (xs := []) (rest := []) (by omega) rfl rfl he0 rfl (Nat.le_of_ble_eq_true rfl) (M' := z_m148) rfl (Nat.le_of_ble_eq_true rfl)) (H 155 _ rfl) rfl (by show 3 + 1 ≤ d; omega) rfl (by decide +kernel) (by decide +kernel) (by decide +kernel) (by decide +kernel) ⟨⟨ax, 1, rfl, I.2.2.1, Int.le_refl _, Int.le_refl _⟩, trivial⟩ (fun ty1 h1 w1 x1 y1 I1 V1 cx1 cy1 l1 => ?_)
  have cx1 : x1 ≤ 0 := cx1
  have cy1 : y1 ≤ 0 := cy1
  match w1, V1 with
  | some w1, V1 =>
  obtain ⟨c1, rfl, -⟩ := V1
  show z_ok sx d 343 621 lo [.int c1] h1 _
  refine zpop (zQf (k := 621) 13 zQd_19 rfl rfl) (k' := 622) rfl ?_
  refine zh_ald zJ_343 (k' := 623) (zQf (k := 622) 14 zQd_19 rfl rfl) rfl Lv.2.2.1 ?_
  obtain ⟨fs1, he1, -⟩ := zcell0 (c := 9) (n := 23) I1.1 I1.2.2.2.1 rfl rfl rfl
  refine zlcon (ct := zC200) (as := [.ref am]) (i := (54, 278, 0, 9)) I1 (zQf (k := 623) 15 zQd_19 rfl rfl) (k' := 624) rfl (by decide) (zcal54 (xs := []) (rest := []) (by omega) rfl rfl he1 rfl (Nat.le_of_ble_eq_true rfl) (M' := z_m278) rfl (Nat.le_of_ble_eq_true rfl)) (H 200 _ rfl) rfl (by show 3 + 1 ≤ d; omega) rfl (by decide +kernel) (by decide +kernel) (by decide +kernel) (by decide +kernel) ⟨⟨am, 20, rfl, I1.2.2.2.1, Int.le_refl _, Int.le_refl _⟩, trivial⟩ (fun ty2 h2 w2 x2 y2 I2 V2 cx2 cy2 l2 => ?_)
  have cx2 : x2 ≤ 0 := cx2
  have cy2 : y2 ≤ 0 := cy2
  match w2, V2 with
  | some w2, V2 =>
  obtain ⟨c2, rfl, -⟩ := V2
  show z_ok sx d 343 624 lo [.int c2] h2 _
  refine zpop (zQf (k := 624) 16 zQd_19 rfl rfl) (k' := 625) rfl ?_
  refine zgoto (zQf (k := 625) 17 zQd_19 rfl rfl) ?_
  exact K.use I2 Lv (by omega) (by omega) (by omega)
set_option maxRecDepth 100000 in
theorem zcs_31 {sx : zX} {d : Nat} {ty : List Nat} {lo : zL} {h : zH} {Ψ : zO → zH → Nat → Nat → Prop} {ax am ao i : Nat} {N : Int} (H : ∀ (c : Nat) (c' : zCt), zCtl[c]? = some c' → zVd z_tt zE1 c') (hd : 60 ≤ d) (hi : i + 6 ≤ sx.1) (hL : sx.1 ≤ 3072) (hB : h.length + 6 ≤ zB) (I : zIw ty h ax am ao N) (Lv : zLv lo ax am ao i) (K : zKc sx d ax am ao i h Ψ) : z_ok sx d 343 626 lo [] h Ψ := by
  refine zh_ald zJ_343 (k' := 627) (zQf (k := 626) 18 zQd_19 rfl rfl) rfl Lv.2.1 ?_
  refine zscr 627 628 629 630 631 632 1 (zQf (k := 627) 19 zQd_19 rfl rfl) (zQf (k := 628) 20 zQd_19 rfl rfl) (zQf (k := 629) 21 zQd_19 rfl rfl) (zQf (k := 630) 22 zQd_19 rfl rfl) (zQf (k := 631) 23 zQd_19 rfl rfl) rfl rfl rfl rfl rfl rfl (by omega) Lv hi hL (fun v0 ev0 => ?_)
  refine zh_ald zJ_343 (k' := 633) (zQf (k := 632) 24 zQd_19 rfl rfl) rfl Lv.2.2.2.1 ?_
  refine zlcon (ct := zC293) (as := [.ref ax, .int v0, .ref ao]) (i := (72, 334, 3, 0)) I (zQf (k := 633) 25 zQd_19 rfl rfl) (k' := 634) rfl (by decide) (zcal72 (xs := [.ref ao, .int v0, .ref ax]) (rest := []) (by omega) rfl rfl (Nat.le_of_ble_eq_true rfl) (M' := z_m334) rfl (Nat.le_of_ble_eq_true rfl)) (H 293 _ rfl) rfl (by show 8 + 1 ≤ d; omega) rfl (by decide +kernel) (by decide +kernel) (by decide +kernel) (by decide +kernel) ⟨⟨ax, 1, rfl, I.2.2.1, Int.le_refl _, Int.le_refl _⟩, zFull_ok _, ⟨ao, 33, rfl, I.2.2.2.2.1, Int.le_refl _, Int.le_refl _⟩, trivial⟩ (fun ty1 h1 w1 x1 y1 I1 V1 cx1 cy1 l1 => ?_)
  have cx1 : x1 ≤ 1 := cx1
  have cy1 : y1 ≤ 6 := cy1
  match w1, V1 with
  | some w1, V1 =>
  obtain ⟨c1, rfl, -⟩ := V1
  show z_ok sx d 343 634 lo [.int c1] h1 _
  refine zh_ist zJ_343 (a := 5) (b := 0) (z := 0) (zQf (k := 634) 26 zQd_19 rfl rfl) (k' := 635) rfl ?_
  refine zh_ald zJ_343 (k' := 636) (zQf (k := 635) 27 zQd_19 rfl rfl) rfl (Lv.set (b := 5) (v := c1) (by omega)).2.2.1 ?_
  refine zscr 636 637 638 639 640 641 1 (zQf (k := 636) 28 zQd_19 rfl rfl) (zQf (k := 637) 29 zQd_19 rfl rfl) (zQf (k := 638) 30 zQd_19 rfl rfl) (zQf (k := 639) 31 zQd_19 rfl rfl) (zQf (k := 640) 0 zQd_20 rfl rfl) rfl rfl rfl rfl rfl rfl (by omega) (Lv.set (b := 5) (v := c1) (by omega)) hi hL (fun v1 ev1 => ?_)
  obtain ⟨fs1, he1, -⟩ := zcell0 (c := 9) (n := 23) I1.1 I1.2.2.2.1 rfl rfl rfl
  refine zlcon (ct := zC206) (as := [.ref am, .int v1]) (i := (54, 284, 1, 9)) I1 (zQf (k := 641) 1 zQd_20 rfl rfl) (k' := 642) rfl (by decide) (zcal54 (xs := [.int v1]) (rest := []) (by omega) rfl rfl he1 rfl (Nat.le_of_ble_eq_true rfl) (M' := z_m284) rfl (Nat.le_of_ble_eq_true rfl)) (H 206 _ rfl) rfl (by show 2 + 1 ≤ d; omega) rfl (by decide +kernel) (by decide +kernel) (by decide +kernel) (by decide +kernel) ⟨⟨am, 20, rfl, I1.2.2.2.1, Int.le_refl _, Int.le_refl _⟩, zFull_ok _, trivial⟩ (fun ty2 h2 w2 x2 y2 I2 V2 cx2 cy2 l2 => ?_)
  have cx2 : x2 ≤ 0 := cx2
  have cy2 : y2 ≤ 0 := cy2
  match w2, V2 with
  | some w2, V2 =>
  obtain ⟨c2, rfl, -⟩ := V2
  show z_ok sx d 343 642 (z_set1 lo 5 (.int c1)) [.int c2] h2 _
  refine zh_ist zJ_343 (a := 6) (b := 0) (z := 0) (zQf (k := 642) 2 zQd_20 rfl rfl) (k' := 643) rfl ?_
  refine zgoto (zQf (k := 643) 3 zQd_20 rfl rfl) ?_
  exact K.use I2 ((Lv.set (b := 5) (v := c1) (by omega)).set (b := 6) (v := c2) (by omega)) (by omega) (by omega) (by omega)
set_option maxRecDepth 100000 in
theorem zcs_32 {sx : zX} {d : Nat} {ty : List Nat} {lo : zL} {h : zH} {Ψ : zO → zH → Nat → Nat → Prop} {ax am ao i : Nat} {N : Int} (H : ∀ (c : Nat) (c' : zCt), zCtl[c]? = some c' → zVd z_tt zE1 c') (hd : 60 ≤ d) (hi : i + 6 ≤ sx.1) (hL : sx.1 ≤ 3072) (hB : h.length + 6 ≤ zB) (I : zIw ty h ax am ao N) (Lv : zLv lo ax am ao i) (K : zKc sx d ax am ao i h Ψ) : z_ok sx d 343 644 lo [] h Ψ := by
  refine zh_ald zJ_343 (k' := 645) (zQf (k := 644) 4 zQd_20 rfl rfl) rfl Lv.2.1 ?_
  obtain ⟨fs0, he0, -⟩ := zcell0 (c := 8) (n := 8) I.1 I.2.2.1 rfl rfl rfl
  refine zlcon (ct := zC160) (as := [.ref ax]) (i := (54, 150, 0, 8)) I (zQf (k := 645) 5 zQd_20 rfl rfl) (k' := 646) rfl (by decide) (zcal54 (xs := []) (rest := []) (by omega) rfl rfl he0 rfl (Nat.le_of_ble_eq_true rfl) (M' := z_m150) rfl (Nat.le_of_ble_eq_true rfl)) (H 160 _ rfl) rfl (by show 2 + 1 ≤ d; omega) rfl (by decide +kernel) (by decide +kernel) (by decide +kernel) (by decide +kernel) ⟨⟨ax, 1, rfl, I.2.2.1, Int.le_refl _, Int.le_refl _⟩, trivial⟩ (fun ty1 h1 w1 x1 y1 I1 V1 cx1 cy1 l1 => ?_)
  have cx1 : x1 ≤ 0 := cx1
  have cy1 : y1 ≤ 0 := cy1
  match w1, V1 with
  | some w1, V1 =>
  obtain ⟨c1, rfl, -⟩ := V1
  show z_ok sx d 343 646 lo [.int c1] h1 _
  refine zpop (zQf (k := 646) 6 zQd_20 rfl rfl) (k' := 647) rfl ?_
  refine zh_ald zJ_343 (k' := 648) (zQf (k := 647) 7 zQd_20 rfl rfl) rfl Lv.2.2.1 ?_
  obtain ⟨fs1, he1, -⟩ := zcell0 (c := 9) (n := 23) I1.1 I1.2.2.2.1 rfl rfl rfl
  refine zlcon (ct := zC202) (as := [.ref am]) (i := (54, 280, 0, 9)) I1 (zQf (k := 648) 8 zQd_20 rfl rfl) (k' := 649) rfl (by decide) (zcal54 (xs := []) (rest := []) (by omega) rfl rfl he1 rfl (Nat.le_of_ble_eq_true rfl) (M' := z_m280) rfl (Nat.le_of_ble_eq_true rfl)) (H 202 _ rfl) rfl (by show 3 + 1 ≤ d; omega) rfl (by decide +kernel) (by decide +kernel) (by decide +kernel) (by decide +kernel) ⟨⟨am, 20, rfl, I1.2.2.2.1, Int.le_refl _, Int.le_refl _⟩, trivial⟩ (fun ty2 h2 w2 x2 y2 I2 V2 cx2 cy2 l2 => ?_)
  have cx2 : x2 ≤ 0 := cx2
  have cy2 : y2 ≤ 0 := cy2
  match w2, V2 with
  | some w2, V2 =>
  obtain ⟨c2, rfl, -⟩ := V2
  show z_ok sx d 343 649 lo [.int c2] h2 _
  refine zpop (zQf (k := 649) 9 zQd_20 rfl rfl) (k' := 650) rfl ?_
  refine zgoto (zQf (k := 650) 10 zQd_20 rfl rfl) ?_
  exact K.use I2 Lv (by omega) (by omega) (by omega)
set_option maxRecDepth 100000 in
theorem zcs_33 {sx : zX} {d : Nat} {ty : List Nat} {lo : zL} {h : zH} {Ψ : zO → zH → Nat → Nat → Prop} {ax am ao i : Nat} {N : Int} (H : ∀ (c : Nat) (c' : zCt), zCtl[c]? = some c' → zVd z_tt zE1 c') (hd : 60 ≤ d) (hi : i + 6 ≤ sx.1) (hL : sx.1 ≤ 3072) (hB : h.length + 6 ≤ zB) (I : zIw ty h ax am ao N) (Lv : zLv lo ax am ao i) (K : zKc sx d ax am ao i h Ψ) : z_ok sx d 343 651 lo [] h Ψ := by
  refine zh_ald zJ_343 (k' := 652) (zQf (k := 651) 11 zQd_20 rfl rfl) rfl Lv.2.1 ?_
  refine zscr 652 653 654 655 656 657 1 (zQf (k := 652) 12 zQd_20 rfl rfl) (zQf (k := 653) 13 zQd_20 rfl rfl) (zQf (k := 654) 14 zQd_20 rfl rfl) (zQf (k := 655) 15 zQd_20 rfl rfl) (zQf (k := 656) 16 zQd_20 rfl rfl) rfl rfl rfl rfl rfl rfl (by omega) Lv hi hL (fun v0 ev0 => ?_)
  refine zscr 657 658 659 660 661 662 2 (zQf (k := 657) 17 zQd_20 rfl rfl) (zQf (k := 658) 18 zQd_20 rfl rfl) (zQf (k := 659) 19 zQd_20 rfl rfl) (zQf (k := 660) 20 zQd_20 rfl rfl) (zQf (k := 661) 21 zQd_20 rfl rfl) rfl rfl rfl rfl rfl rfl (by omega) Lv hi hL (fun v1 ev1 => ?_)
  refine zh_ald zJ_343 (k' := 663) (zQf (k := 662) 22 zQd_20 rfl rfl) rfl Lv.2.2.2.1 ?_
  refine zlcq (ct := zC294) (as := [.ref ax, .int v0, .int v1, .ref ao]) (i := (72, 335, 4, 0)) I.v (zQf (k := 663) 23 zQd_20 rfl rfl) (k' := 664) rfl (by decide) (zcal72 (xs := [.ref ao, .int v1, .int v0, .ref ax]) (rest := []) (by omega) rfl rfl (Nat.le_of_ble_eq_true rfl) (M' := z_m335) rfl (Nat.le_of_ble_eq_true rfl)) (H 294 _ rfl) rfl (by show 25 + 1 ≤ d; omega) rfl (by decide +kernel) (by decide +kernel) (by decide +kernel) ⟨⟨ax, 1, rfl, I.2.2.1, Int.le_refl _, Int.le_refl _⟩, zFull_ok _, zFull_ok _, ⟨ao, 33, rfl, I.2.2.2.2.1, Int.le_refl _, Int.le_refl _⟩, trivial⟩ sq_335 rfl (fun ty1 h1 w1 x1 y1 I1 V1 G1 cx1 cy1 l1 => ?_)
  have cx1 : x1 ≤ 1 := cx1
  have cy1 : y1 ≤ 6 := cy1
  match w1, V1, G1 with
  | some w1, V1, G1 =>
  obtain ⟨c1, rfl, -⟩ := V1
  have G1 : p_335 ax v0 v1 ao (za h) c1 (za h1) := by
    obtain ⟨r9, er9, g9⟩ := G1
    have er9 : r9 = c1 := by cases er9; rfl
    rw [er9] at g9
    exact g9
  show z_ok sx d 343 664 lo [.int c1] h1 _
  refine zh_ist zJ_343 (a := 5) (b := 0) (z := 0) (zQf (k := 664) 24 zQd_20 rfl rfl) (k' := 665) rfl ?_
  refine zh_ald zJ_343 (k' := 666) (zQf (k := 665) 25 zQd_20 rfl rfl) rfl (Lv.set (b := 5) (v := c1) (by omega)).2.2.1 ?_
  refine zscr 666 667 668 669 670 671 1 (zQf (k := 666) 26 zQd_20 rfl rfl) (zQf (k := 667) 27 zQd_20 rfl rfl) (zQf (k := 668) 28 zQd_20 rfl rfl) (zQf (k := 669) 29 zQd_20 rfl rfl) (zQf (k := 670) 30 zQd_20 rfl rfl) rfl rfl rfl rfl rfl rfl (by omega) (Lv.set (b := 5) (v := c1) (by omega)) hi hL (fun v2 ev2 => ?_)
  refine zscr 671 672 673 674 675 676 2 (zQf (k := 671) 31 zQd_20 rfl rfl) (zQf (k := 672) 0 zQd_21 rfl rfl) (zQf (k := 673) 1 zQd_21 rfl rfl) (zQf (k := 674) 2 zQd_21 rfl rfl) (zQf (k := 675) 3 zQd_21 rfl rfl) rfl rfl rfl rfl rfl rfl (by omega) (Lv.set (b := 5) (v := c1) (by omega)) hi hL (fun v3 ev3 => ?_)
  obtain ⟨fs1, he1, -⟩ := zcell0 (c := 9) (n := 23) I1.1 I1.2.2.2.1 rfl rfl rfl
  refine zlcq (ct := zC264) (as := [.ref am, .int v2, .int v3]) (i := (54, 270, 2, 9)) I1 (zQf (k := 676) 4 zQd_21 rfl rfl) (k' := 677) rfl (by decide) (zcal54 (xs := [.int v3, .int v2]) (rest := []) (by omega) rfl rfl he1 rfl (Nat.le_of_ble_eq_true rfl) (M' := z_m270) rfl (Nat.le_of_ble_eq_true rfl)) (H 264 _ rfl) rfl (by show 27 + 1 ≤ d; omega) rfl (by decide +kernel) (by decide +kernel) (by decide +kernel) ⟨⟨am, 20, rfl, I1.2.2.2.1, Int.le_refl _, Int.le_refl _⟩, zFull_ok _, zFull_ok _, trivial⟩ sq_270 rfl (fun ty2 h2 w2 x2 y2 I2 V2 G2 cx2 cy2 l2 => ?_)
  have cx2 : x2 ≤ 0 := cx2
  have cy2 : y2 ≤ 0 := cy2
  match w2, V2, G2 with
  | some w2, V2, G2 =>
  obtain ⟨c2, rfl, -⟩ := V2
  have G2 : p_270 am v2 v3 (za h1) c2 (za h2) := by
    obtain ⟨r9, er9, g9⟩ := G2
    have er9 : r9 = c2 := by cases er9; rfl
    rw [er9] at g9
    exact g9
  have ee0 : v2 = v0 := by rw [ev2, ev0]
  have ee1 : v3 = v1 := by rw [ev3, ev1]
  rw [ee0, ee1] at G2
  have Z2 : zHld (za h2) ∧ zLik (za h2) c1 c2 := by
    obtain ⟨⟨rfl, rfl, rfl⟩, -⟩ := I.lx
    obtain ⟨p0, w0, K0, R0⟩ := I.hd
    exact zq_33 w0 K0 R0 G1 G2
  have I2 := I2.w Z2.1
  have GE : ∃ t : Int32, zv h2 am 0 = .int t ∧ t.toInt = c1.toInt ∧ (c1.toInt = 0 → zv h2 ao 0 = .long c2.toInt64) := by
    obtain ⟨⟨rfl, rfl, rfl⟩, -⟩ := I.lx
    exact Z2.2
  have zx2 : x2 = 0 := by omega
  have zy2 : y2 = 0 := by omega
  subst zx2
  subst zy2
  show z_ok sx d 343 677 (z_set1 lo 5 (.int c1)) [.int c2] h2 _
  refine zh_ist zJ_343 (a := 6) (b := 0) (z := 0) (zQf (k := 677) 5 zQd_21 rfl rfl) (k' := 678) rfl ?_
  refine zgoto (zQf (k := 678) 6 zQd_21 rfl rfl) ?_
  exact K.use I2 ((Lv.set (b := 5) (v := c1) (by omega)).set (b := 6) (v := c2) (by omega)) (by omega) (by omega) (by omega)
set_option maxRecDepth 100000 in
theorem zcs_34 {sx : zX} {d : Nat} {ty : List Nat} {lo : zL} {h : zH} {Ψ : zO → zH → Nat → Nat → Prop} {ax am ao i : Nat} {N : Int} (H : ∀ (c : Nat) (c' : zCt), zCtl[c]? = some c' → zVd z_tt zE1 c') (hd : 60 ≤ d) (hi : i + 6 ≤ sx.1) (hL : sx.1 ≤ 3072) (hB : h.length + 6 ≤ zB) (I : zIw ty h ax am ao N) (Lv : zLv lo ax am ao i) (K : zKc sx d ax am ao i h Ψ) : z_ok sx d 343 679 lo [] h Ψ := by
  refine zh_ald zJ_343 (k' := 680) (zQf (k := 679) 7 zQd_21 rfl rfl) rfl Lv.2.1 ?_
  refine zscr 680 681 682 683 684 685 1 (zQf (k := 680) 8 zQd_21 rfl rfl) (zQf (k := 681) 9 zQd_21 rfl rfl) (zQf (k := 682) 10 zQd_21 rfl rfl) (zQf (k := 683) 11 zQd_21 rfl rfl) (zQf (k := 684) 12 zQd_21 rfl rfl) rfl rfl rfl rfl rfl rfl (by omega) Lv hi hL (fun v0 ev0 => ?_)
  refine zh_ald zJ_343 (k' := 686) (zQf (k := 685) 13 zQd_21 rfl rfl) rfl Lv.2.2.2.1 ?_
  refine zlcq (ct := zC295) (as := [.ref ax, .int v0, .ref ao]) (i := (72, 336, 3, 0)) I.v (zQf (k := 686) 14 zQd_21 rfl rfl) (k' := 687) rfl (by decide) (zcal72 (xs := [.ref ao, .int v0, .ref ax]) (rest := []) (by omega) rfl rfl (Nat.le_of_ble_eq_true rfl) (M' := z_m336) rfl (Nat.le_of_ble_eq_true rfl)) (H 295 _ rfl) rfl (by show 25 + 1 ≤ d; omega) rfl (by decide +kernel) (by decide +kernel) (by decide +kernel) ⟨⟨ax, 1, rfl, I.2.2.1, Int.le_refl _, Int.le_refl _⟩, zFull_ok _, ⟨ao, 33, rfl, I.2.2.2.2.1, Int.le_refl _, Int.le_refl _⟩, trivial⟩ sq_336 rfl (fun ty1 h1 w1 x1 y1 I1 V1 G1 cx1 cy1 l1 => ?_)
  have cx1 : x1 ≤ 1 := cx1
  have cy1 : y1 ≤ 6 := cy1
  match w1, V1, G1 with
  | some w1, V1, G1 =>
  obtain ⟨c1, rfl, -⟩ := V1
  have G1 : p_336 ax v0 ao (za h) c1 (za h1) := by
    obtain ⟨r9, er9, g9⟩ := G1
    have er9 : r9 = c1 := by cases er9; rfl
    rw [er9] at g9
    exact g9
  show z_ok sx d 343 687 lo [.int c1] h1 _
  refine zh_ist zJ_343 (a := 5) (b := 0) (z := 0) (zQf (k := 687) 15 zQd_21 rfl rfl) (k' := 688) rfl ?_
  refine zh_ald zJ_343 (k' := 689) (zQf (k := 688) 16 zQd_21 rfl rfl) rfl (Lv.set (b := 5) (v := c1) (by omega)).2.2.1 ?_
  refine zscr 689 690 691 692 693 694 1 (zQf (k := 689) 17 zQd_21 rfl rfl) (zQf (k := 690) 18 zQd_21 rfl rfl) (zQf (k := 691) 19 zQd_21 rfl rfl) (zQf (k := 692) 20 zQd_21 rfl rfl) (zQf (k := 693) 21 zQd_21 rfl rfl) rfl rfl rfl rfl rfl rfl (by omega) (Lv.set (b := 5) (v := c1) (by omega)) hi hL (fun v1 ev1 => ?_)
  obtain ⟨fs1, he1, -⟩ := zcell0 (c := 9) (n := 23) I1.1 I1.2.2.2.1 rfl rfl rfl
  refine zlcq (ct := zC265) (as := [.ref am, .int v1]) (i := (54, 271, 1, 9)) I1 (zQf (k := 694) 22 zQd_21 rfl rfl) (k' := 695) rfl (by decide) (zcal54 (xs := [.int v1]) (rest := []) (by omega) rfl rfl he1 rfl (Nat.le_of_ble_eq_true rfl) (M' := z_m271) rfl (Nat.le_of_ble_eq_true rfl)) (H 265 _ rfl) rfl (by show 26 + 1 ≤ d; omega) rfl (by decide +kernel) (by decide +kernel) (by decide +kernel) ⟨⟨am, 20, rfl, I1.2.2.2.1, Int.le_refl _, Int.le_refl _⟩, zFull_ok _, trivial⟩ sq_271 rfl (fun ty2 h2 w2 x2 y2 I2 V2 G2 cx2 cy2 l2 => ?_)
  have cx2 : x2 ≤ 0 := cx2
  have cy2 : y2 ≤ 0 := cy2
  match w2, V2, G2 with
  | some w2, V2, G2 =>
  obtain ⟨c2, rfl, -⟩ := V2
  have G2 : p_271 am v1 (za h1) c2 (za h2) := by
    obtain ⟨r9, er9, g9⟩ := G2
    have er9 : r9 = c2 := by cases er9; rfl
    rw [er9] at g9
    exact g9
  have ee0 : v1 = v0 := by rw [ev1, ev0]
  rw [ee0] at G2
  have Z2 : zHld (za h2) ∧ zLik (za h2) c1 c2 := by
    obtain ⟨⟨rfl, rfl, rfl⟩, -⟩ := I.lx
    obtain ⟨p0, w0, K0, R0⟩ := I.hd
    exact zq_34 w0 K0 R0 G1 G2
  have I2 := I2.w Z2.1
  have GE : ∃ t : Int32, zv h2 am 0 = .int t ∧ t.toInt = c1.toInt ∧ (c1.toInt = 0 → zv h2 ao 0 = .long c2.toInt64) := by
    obtain ⟨⟨rfl, rfl, rfl⟩, -⟩ := I.lx
    exact Z2.2
  have zx2 : x2 = 0 := by omega
  have zy2 : y2 = 0 := by omega
  subst zx2
  subst zy2
  show z_ok sx d 343 695 (z_set1 lo 5 (.int c1)) [.int c2] h2 _
  refine zh_ist zJ_343 (a := 6) (b := 0) (z := 0) (zQf (k := 695) 23 zQd_21 rfl rfl) (k' := 696) rfl ?_
  refine zgoto (zQf (k := 696) 24 zQd_21 rfl rfl) ?_
  exact K.use I2 ((Lv.set (b := 5) (v := c1) (by omega)).set (b := 6) (v := c2) (by omega)) (by omega) (by omega) (by omega)
set_option maxRecDepth 100000 in
theorem zcs_35 {sx : zX} {d : Nat} {ty : List Nat} {lo : zL} {h : zH} {Ψ : zO → zH → Nat → Nat → Prop} {ax am ao i : Nat} {N : Int} (H : ∀ (c : Nat) (c' : zCt), zCtl[c]? = some c' → zVd z_tt zE1 c') (hd : 60 ≤ d) (hi : i + 6 ≤ sx.1) (hL : sx.1 ≤ 3072) (hB : h.length + 6 ≤ zB) (I : zIw ty h ax am ao N) (Lv : zLv lo ax am ao i) (K : zKc sx d ax am ao i h Ψ) : z_ok sx d 343 697 lo [] h Ψ := by
  refine zh_ald zJ_343 (k' := 698) (zQf (k := 697) 25 zQd_21 rfl rfl) rfl Lv.2.1 ?_
  refine zscr 698 699 700 701 702 703 1 (zQf (k := 698) 26 zQd_21 rfl rfl) (zQf (k := 699) 27 zQd_21 rfl rfl) (zQf (k := 700) 28 zQd_21 rfl rfl) (zQf (k := 701) 29 zQd_21 rfl rfl) (zQf (k := 702) 30 zQd_21 rfl rfl) rfl rfl rfl rfl rfl rfl (by omega) Lv hi hL (fun v0 ev0 => ?_)
  refine zh_ald zJ_343 (k' := 704) (zQf (k := 703) 31 zQd_21 rfl rfl) rfl Lv.2.2.2.1 ?_
  refine zlcq (ct := zC296) (as := [.ref ax, .int v0, .ref ao]) (i := (72, 337, 3, 0)) I.v (zQf (k := 704) 0 zQd_22 rfl rfl) (k' := 705) rfl (by decide) (zcal72 (xs := [.ref ao, .int v0, .ref ax]) (rest := []) (by omega) rfl rfl (Nat.le_of_ble_eq_true rfl) (M' := z_m337) rfl (Nat.le_of_ble_eq_true rfl)) (H 296 _ rfl) rfl (by show 25 + 1 ≤ d; omega) rfl (by decide +kernel) (by decide +kernel) (by decide +kernel) ⟨⟨ax, 1, rfl, I.2.2.1, Int.le_refl _, Int.le_refl _⟩, zFull_ok _, ⟨ao, 33, rfl, I.2.2.2.2.1, Int.le_refl _, Int.le_refl _⟩, trivial⟩ sq_337 rfl (fun ty1 h1 w1 x1 y1 I1 V1 G1 cx1 cy1 l1 => ?_)
  have cx1 : x1 ≤ 1 := cx1
  have cy1 : y1 ≤ 6 := cy1
  match w1, V1, G1 with
  | some w1, V1, G1 =>
  obtain ⟨c1, rfl, -⟩ := V1
  have G1 : p_337 ax v0 ao (za h) c1 (za h1) := by
    obtain ⟨r9, er9, g9⟩ := G1
    have er9 : r9 = c1 := by cases er9; rfl
    rw [er9] at g9
    exact g9
  show z_ok sx d 343 705 lo [.int c1] h1 _
  refine zh_ist zJ_343 (a := 5) (b := 0) (z := 0) (zQf (k := 705) 1 zQd_22 rfl rfl) (k' := 706) rfl ?_
  refine zh_ald zJ_343 (k' := 707) (zQf (k := 706) 2 zQd_22 rfl rfl) rfl (Lv.set (b := 5) (v := c1) (by omega)).2.2.1 ?_
  refine zscr 707 708 709 710 711 712 1 (zQf (k := 707) 3 zQd_22 rfl rfl) (zQf (k := 708) 4 zQd_22 rfl rfl) (zQf (k := 709) 5 zQd_22 rfl rfl) (zQf (k := 710) 6 zQd_22 rfl rfl) (zQf (k := 711) 7 zQd_22 rfl rfl) rfl rfl rfl rfl rfl rfl (by omega) (Lv.set (b := 5) (v := c1) (by omega)) hi hL (fun v1 ev1 => ?_)
  obtain ⟨fs1, he1, -⟩ := zcell0 (c := 9) (n := 23) I1.1 I1.2.2.2.1 rfl rfl rfl
  refine zlcq (ct := zC266) (as := [.ref am, .int v1]) (i := (54, 272, 1, 9)) I1 (zQf (k := 712) 8 zQd_22 rfl rfl) (k' := 713) rfl (by decide) (zcal54 (xs := [.int v1]) (rest := []) (by omega) rfl rfl he1 rfl (Nat.le_of_ble_eq_true rfl) (M' := z_m272) rfl (Nat.le_of_ble_eq_true rfl)) (H 266 _ rfl) rfl (by show 26 + 1 ≤ d; omega) rfl (by decide +kernel) (by decide +kernel) (by decide +kernel) ⟨⟨am, 20, rfl, I1.2.2.2.1, Int.le_refl _, Int.le_refl _⟩, zFull_ok _, trivial⟩ sq_272 rfl (fun ty2 h2 w2 x2 y2 I2 V2 G2 cx2 cy2 l2 => ?_)
  have cx2 : x2 ≤ 0 := cx2
  have cy2 : y2 ≤ 0 := cy2
  match w2, V2, G2 with
  | some w2, V2, G2 =>
  obtain ⟨c2, rfl, -⟩ := V2
  have G2 : p_272 am v1 (za h1) c2 (za h2) := by
    obtain ⟨r9, er9, g9⟩ := G2
    have er9 : r9 = c2 := by cases er9; rfl
    rw [er9] at g9
    exact g9
  have ee0 : v1 = v0 := by rw [ev1, ev0]
  rw [ee0] at G2
  have Z2 : zHld (za h2) ∧ zLik (za h2) c1 c2 := by
    obtain ⟨⟨rfl, rfl, rfl⟩, -⟩ := I.lx
    obtain ⟨p0, w0, K0, R0⟩ := I.hd
    exact zq_35 w0 K0 R0 G1 G2
  have I2 := I2.w Z2.1
  have GE : ∃ t : Int32, zv h2 am 0 = .int t ∧ t.toInt = c1.toInt ∧ (c1.toInt = 0 → zv h2 ao 0 = .long c2.toInt64) := by
    obtain ⟨⟨rfl, rfl, rfl⟩, -⟩ := I.lx
    exact Z2.2
  have zx2 : x2 = 0 := by omega
  have zy2 : y2 = 0 := by omega
  subst zx2
  subst zy2
  show z_ok sx d 343 713 (z_set1 lo 5 (.int c1)) [.int c2] h2 _
  refine zh_ist zJ_343 (a := 6) (b := 0) (z := 0) (zQf (k := 713) 9 zQd_22 rfl rfl) (k' := 714) rfl ?_
  refine zgoto (zQf (k := 714) 10 zQd_22 rfl rfl) ?_
  exact K.use I2 ((Lv.set (b := 5) (v := c1) (by omega)).set (b := 6) (v := c2) (by omega)) (by omega) (by omega) (by omega)
