section
/-! the law's cases 36 to 47; printed with wip/gen/gen_law.py -/
set_option maxRecDepth 100000 in
theorem zcs_36 {sx : zX} {d : Nat} {ty : List Nat} {lo : zL} {h : zH} {Ψ : zO → zH → Nat → Nat → Prop} {ax am ao i : Nat} {N : Int} (H : ∀ (c : Nat) (c' : zCt), zCtl[c]? = some c' → zVd z_tt zE1 c') (hd : 60 ≤ d) (hi : i + 6 ≤ sx.1) (hL : sx.1 ≤ 3072) (hB : h.length + 6 ≤ zB) (I : zIw ty h ax am ao N) (Lv : zLv lo ax am ao i) (K : zKc sx d ax am ao i h Ψ) : z_ok sx d 343 715 lo [] h Ψ := by
  refine zh_ald zJ_343 (k' := 716) (zQf (k := 715) 11 zQd_22 rfl rfl) rfl Lv.2.1 ?_
  refine zscr 716 717 718 719 720 721 1 (zQf (k := 716) 12 zQd_22 rfl rfl) (zQf (k := 717) 13 zQd_22 rfl rfl) (zQf (k := 718) 14 zQd_22 rfl rfl) (zQf (k := 719) 15 zQd_22 rfl rfl) (zQf (k := 720) 16 zQd_22 rfl rfl) rfl rfl rfl rfl rfl rfl (by omega) Lv hi hL (fun v0 ev0 => ?_)
  refine zh_ald zJ_343 (k' := 722) (zQf (k := 721) 17 zQd_22 rfl rfl) rfl Lv.2.2.2.1 ?_
  refine zlcq (ct := zC297) (as := [.ref ax, .int v0, .ref ao]) (i := (72, 338, 3, 0)) I.v (zQf (k := 722) 18 zQd_22 rfl rfl) (k' := 723) rfl (by decide) (zcal72 (xs := [.ref ao, .int v0, .ref ax]) (rest := []) (by omega) rfl rfl (Nat.le_of_ble_eq_true rfl) (M' := z_m338) rfl (Nat.le_of_ble_eq_true rfl)) (H 297 _ rfl) rfl (by show 25 + 1 ≤ d; omega) rfl (by decide +kernel) (by decide +kernel) (by decide +kernel) ⟨⟨ax, 1, rfl, I.2.2.1, Int.le_refl _, Int.le_refl _⟩, zFull_ok _, ⟨ao, 33, rfl, I.2.2.2.2.1, Int.le_refl _, Int.le_refl _⟩, trivial⟩ sq_338 rfl (fun ty1 h1 w1 x1 y1 I1 V1 G1 cx1 cy1 l1 => ?_)
  have cx1 : x1 ≤ 1 := cx1
  have cy1 : y1 ≤ 6 := cy1
  match w1, V1, G1 with
  | some w1, V1, G1 =>
  obtain ⟨c1, rfl, -⟩ := V1
  have G1 : p_338 ax v0 ao (za h) c1 (za h1) := by
    obtain ⟨r9, er9, g9⟩ := G1
    have er9 : r9 = c1 := by cases er9; rfl
    rw [er9] at g9
    exact g9
  show z_ok sx d 343 723 lo [.int c1] h1 _
  refine zh_ist zJ_343 (a := 5) (b := 0) (z := 0) (zQf (k := 723) 19 zQd_22 rfl rfl) (k' := 724) rfl ?_
  refine zh_ald zJ_343 (k' := 725) (zQf (k := 724) 20 zQd_22 rfl rfl) rfl (Lv.set (b := 5) (v := c1) (by omega)).2.2.1 ?_
  refine zscr 725 726 727 728 729 730 1 (zQf (k := 725) 21 zQd_22 rfl rfl) (zQf (k := 726) 22 zQd_22 rfl rfl) (zQf (k := 727) 23 zQd_22 rfl rfl) (zQf (k := 728) 24 zQd_22 rfl rfl) (zQf (k := 729) 25 zQd_22 rfl rfl) rfl rfl rfl rfl rfl rfl (by omega) (Lv.set (b := 5) (v := c1) (by omega)) hi hL (fun v1 ev1 => ?_)
  obtain ⟨fs1, he1, -⟩ := zcell0 (c := 9) (n := 23) I1.1 I1.2.2.2.1 rfl rfl rfl
  refine zlcq (ct := zC267) (as := [.ref am, .int v1]) (i := (54, 273, 1, 9)) I1 (zQf (k := 730) 26 zQd_22 rfl rfl) (k' := 731) rfl (by decide) (zcal54 (xs := [.int v1]) (rest := []) (by omega) rfl rfl he1 rfl (Nat.le_of_ble_eq_true rfl) (M' := z_m273) rfl (Nat.le_of_ble_eq_true rfl)) (H 267 _ rfl) rfl (by show 26 + 1 ≤ d; omega) rfl (by decide +kernel) (by decide +kernel) (by decide +kernel) ⟨⟨am, 20, rfl, I1.2.2.2.1, Int.le_refl _, Int.le_refl _⟩, zFull_ok _, trivial⟩ sq_273 rfl (fun ty2 h2 w2 x2 y2 I2 V2 G2 cx2 cy2 l2 => ?_)
  have cx2 : x2 ≤ 0 := cx2
  have cy2 : y2 ≤ 0 := cy2
  match w2, V2, G2 with
  | some w2, V2, G2 =>
  obtain ⟨c2, rfl, -⟩ := V2
  have G2 : p_273 am v1 (za h1) c2 (za h2) := by
    obtain ⟨r9, er9, g9⟩ := G2
    have er9 : r9 = c2 := by cases er9; rfl
    rw [er9] at g9
    exact g9
  have ee0 : v1 = v0 := by rw [ev1, ev0]
  rw [ee0] at G2
  have Z2 : zHld (za h2) ∧ zLik (za h2) c1 c2 := by
    obtain ⟨⟨rfl, rfl, rfl⟩, -⟩ := I.lx
    obtain ⟨p0, w0, K0, R0⟩ := I.hd
    exact zq_36 w0 K0 R0 G1 G2
  have I2 := I2.w Z2.1
  have GE : ∃ t : Int32, zv h2 am 0 = .int t ∧ t.toInt = c1.toInt ∧ (c1.toInt = 0 → zv h2 ao 0 = .long c2.toInt64) := by
    obtain ⟨⟨rfl, rfl, rfl⟩, -⟩ := I.lx
    exact Z2.2
  have zx2 : x2 = 0 := by omega
  have zy2 : y2 = 0 := by omega
  subst zx2
  subst zy2
  show z_ok sx d 343 731 (z_set1 lo 5 (.int c1)) [.int c2] h2 _
  refine zh_ist zJ_343 (a := 6) (b := 0) (z := 0) (zQf (k := 731) 27 zQd_22 rfl rfl) (k' := 732) rfl ?_
  refine zgoto (zQf (k := 732) 28 zQd_22 rfl rfl) ?_
  exact K.use I2 ((Lv.set (b := 5) (v := c1) (by omega)).set (b := 6) (v := c2) (by omega)) (by omega) (by omega) (by omega)
set_option maxRecDepth 100000 in
theorem zcs_37 {sx : zX} {d : Nat} {ty : List Nat} {lo : zL} {h : zH} {Ψ : zO → zH → Nat → Nat → Prop} {ax am ao i : Nat} {N : Int} (H : ∀ (c : Nat) (c' : zCt), zCtl[c]? = some c' → zVd z_tt zE1 c') (hd : 60 ≤ d) (hi : i + 6 ≤ sx.1) (hL : sx.1 ≤ 3072) (hB : h.length + 6 ≤ zB) (I : zIw ty h ax am ao N) (Lv : zLv lo ax am ao i) (K : zKc sx d ax am ao i h Ψ) : z_ok sx d 343 733 lo [] h Ψ := by
  refine zh_ald zJ_343 (k' := 734) (zQf (k := 733) 29 zQd_22 rfl rfl) rfl Lv.2.1 ?_
  obtain ⟨fs0, he0, -⟩ := zcell0 (c := 8) (n := 8) I.1 I.2.2.1 rfl rfl rfl
  refine zlcon (ct := zC162) (as := [.ref ax]) (i := (54, 155, 0, 8)) I (zQf (k := 734) 30 zQd_22 rfl rfl) (k' := 735) rfl (by decide) (zcal54 (xs := []) (rest := []) (by omega) rfl rfl he0 rfl (Nat.le_of_ble_eq_true rfl) (M' := z_m155) rfl (Nat.le_of_ble_eq_true rfl)) (H 162 _ rfl) rfl (by show 2 + 1 ≤ d; omega) rfl (by decide +kernel) (by decide +kernel) (by decide +kernel) (by decide +kernel) ⟨⟨ax, 1, rfl, I.2.2.1, Int.le_refl _, Int.le_refl _⟩, trivial⟩ (fun ty1 h1 w1 x1 y1 I1 V1 cx1 cy1 l1 => ?_)
  have cx1 : x1 ≤ 0 := cx1
  have cy1 : y1 ≤ 0 := cy1
  match w1, V1 with
  | some w1, V1 =>
  obtain ⟨c1, rfl, -⟩ := V1
  show z_ok sx d 343 735 lo [.int c1] h1 _
  refine zpop (zQf (k := 735) 31 zQd_22 rfl rfl) (k' := 736) rfl ?_
  refine zh_ald zJ_343 (k' := 737) (zQf (k := 736) 0 zQd_23 rfl rfl) rfl Lv.2.2.1 ?_
  obtain ⟨fs1, he1, -⟩ := zcell0 (c := 9) (n := 23) I1.1 I1.2.2.2.1 rfl rfl rfl
  refine zlcon (ct := zC218) (as := [.ref am]) (i := (54, 301, 0, 9)) I1 (zQf (k := 737) 1 zQd_23 rfl rfl) (k' := 738) rfl (by decide) (zcal54 (xs := []) (rest := []) (by omega) rfl rfl he1 rfl (Nat.le_of_ble_eq_true rfl) (M' := z_m301) rfl (Nat.le_of_ble_eq_true rfl)) (H 218 _ rfl) rfl (by show 6 + 1 ≤ d; omega) rfl (by decide +kernel) (by decide +kernel) (by decide +kernel) (by decide +kernel) ⟨⟨am, 20, rfl, I1.2.2.2.1, Int.le_refl _, Int.le_refl _⟩, trivial⟩ (fun ty2 h2 w2 x2 y2 I2 V2 cx2 cy2 l2 => ?_)
  have cx2 : x2 ≤ 0 := cx2
  have cy2 : y2 ≤ 0 := cy2
  match w2, V2 with
  | some w2, V2 =>
  obtain ⟨c2, rfl, -⟩ := V2
  show z_ok sx d 343 738 lo [.int c2] h2 _
  refine zpop (zQf (k := 738) 2 zQd_23 rfl rfl) (k' := 739) rfl ?_
  refine zgoto (zQf (k := 739) 3 zQd_23 rfl rfl) ?_
  exact K.use I2 Lv (by omega) (by omega) (by omega)
set_option maxRecDepth 100000 in
theorem zcs_38 {sx : zX} {d : Nat} {ty : List Nat} {lo : zL} {h : zH} {Ψ : zO → zH → Nat → Nat → Prop} {ax am ao i : Nat} {N : Int} (H : ∀ (c : Nat) (c' : zCt), zCtl[c]? = some c' → zVd z_tt zE1 c') (hd : 60 ≤ d) (hi : i + 6 ≤ sx.1) (hL : sx.1 ≤ 3072) (hB : h.length + 6 ≤ zB) (I : zIw ty h ax am ao N) (Lv : zLv lo ax am ao i) (K : zKc sx d ax am ao i h Ψ) : z_ok sx d 343 740 lo [] h Ψ := by
  refine zh_ald zJ_343 (k' := 741) (zQf (k := 740) 4 zQd_23 rfl rfl) rfl Lv.2.1 ?_
  obtain ⟨fs0, he0, -⟩ := zcell0 (c := 8) (n := 8) I.1 I.2.2.1 rfl rfl rfl
  refine zlcon (ct := zC163) (as := [.ref ax]) (i := (54, 156, 0, 8)) I (zQf (k := 741) 5 zQd_23 rfl rfl) (k' := 742) rfl (by decide) (zcal54 (xs := []) (rest := []) (by omega) rfl rfl he0 rfl (Nat.le_of_ble_eq_true rfl) (M' := z_m156) rfl (Nat.le_of_ble_eq_true rfl)) (H 163 _ rfl) rfl (by show 3 + 1 ≤ d; omega) rfl (by decide +kernel) (by decide +kernel) (by decide +kernel) (by decide +kernel) ⟨⟨ax, 1, rfl, I.2.2.1, Int.le_refl _, Int.le_refl _⟩, trivial⟩ (fun ty1 h1 w1 x1 y1 I1 V1 cx1 cy1 l1 => ?_)
  have cx1 : x1 ≤ 0 := cx1
  have cy1 : y1 ≤ 0 := cy1
  match w1, V1 with
  | some w1, V1 =>
  obtain ⟨c1, rfl, -⟩ := V1
  show z_ok sx d 343 742 lo [.int c1] h1 _
  refine zpop (zQf (k := 742) 6 zQd_23 rfl rfl) (k' := 743) rfl ?_
  refine zh_ald zJ_343 (k' := 744) (zQf (k := 743) 7 zQd_23 rfl rfl) rfl Lv.2.2.1 ?_
  obtain ⟨fs1, he1, -⟩ := zcell0 (c := 9) (n := 23) I1.1 I1.2.2.2.1 rfl rfl rfl
  refine zlcon (ct := zC219) (as := [.ref am]) (i := (54, 302, 0, 9)) I1 (zQf (k := 744) 8 zQd_23 rfl rfl) (k' := 745) rfl (by decide) (zcal54 (xs := []) (rest := []) (by omega) rfl rfl he1 rfl (Nat.le_of_ble_eq_true rfl) (M' := z_m302) rfl (Nat.le_of_ble_eq_true rfl)) (H 219 _ rfl) rfl (by show 3 + 1 ≤ d; omega) rfl (by decide +kernel) (by decide +kernel) (by decide +kernel) (by decide +kernel) ⟨⟨am, 20, rfl, I1.2.2.2.1, Int.le_refl _, Int.le_refl _⟩, trivial⟩ (fun ty2 h2 w2 x2 y2 I2 V2 cx2 cy2 l2 => ?_)
  have cx2 : x2 ≤ 0 := cx2
  have cy2 : y2 ≤ 0 := cy2
  match w2, V2 with
  | some w2, V2 =>
  obtain ⟨c2, rfl, -⟩ := V2
  show z_ok sx d 343 745 lo [.int c2] h2 _
  refine zpop (zQf (k := 745) 9 zQd_23 rfl rfl) (k' := 746) rfl ?_
  refine zgoto (zQf (k := 746) 10 zQd_23 rfl rfl) ?_
  exact K.use I2 Lv (by omega) (by omega) (by omega)
set_option maxRecDepth 100000 in
theorem zcs_39 {sx : zX} {d : Nat} {ty : List Nat} {lo : zL} {h : zH} {Ψ : zO → zH → Nat → Nat → Prop} {ax am ao i : Nat} {N : Int} (H : ∀ (c : Nat) (c' : zCt), zCtl[c]? = some c' → zVd z_tt zE1 c') (hd : 60 ≤ d) (hi : i + 6 ≤ sx.1) (hL : sx.1 ≤ 3072) (hB : h.length + 6 ≤ zB) (I : zIw ty h ax am ao N) (Lv : zLv lo ax am ao i) (K : zKc sx d ax am ao i h Ψ) : z_ok sx d 343 747 lo [] h Ψ := by
  refine zh_ald zJ_343 (k' := 748) (zQf (k := 747) 11 zQd_23 rfl rfl) rfl Lv.2.1 ?_
  refine zscr 748 749 750 751 752 753 1 (zQf (k := 748) 12 zQd_23 rfl rfl) (zQf (k := 749) 13 zQd_23 rfl rfl) (zQf (k := 750) 14 zQd_23 rfl rfl) (zQf (k := 751) 15 zQd_23 rfl rfl) (zQf (k := 752) 16 zQd_23 rfl rfl) rfl rfl rfl rfl rfl rfl (by omega) Lv hi hL (fun v0 ev0 => ?_)
  refine zscr 753 754 755 756 757 758 2 (zQf (k := 753) 17 zQd_23 rfl rfl) (zQf (k := 754) 18 zQd_23 rfl rfl) (zQf (k := 755) 19 zQd_23 rfl rfl) (zQf (k := 756) 20 zQd_23 rfl rfl) (zQf (k := 757) 21 zQd_23 rfl rfl) rfl rfl rfl rfl rfl rfl (by omega) Lv hi hL (fun v1 ev1 => ?_)
  refine zboo 758 759 760 761 762 (zQf (k := 758) 22 zQd_23 rfl rfl) (zQf (k := 759) 23 zQd_23 rfl rfl) (zQf (k := 760) 24 zQd_23 rfl rfl) (zQf (k := 761) 25 zQd_23 rfl rfl) rfl rfl rfl (fun v2 hv2 ev2 => ?_)
  refine zh_ald zJ_343 (k' := 763) (zQf (k := 762) 26 zQd_23 rfl rfl) rfl Lv.2.2.2.1 ?_
  refine zlcq (ct := zC298) (as := [.ref ax, .int v0, .int v2, .ref ao]) (i := (72, 339, 4, 0)) I.v (zQf (k := 763) 27 zQd_23 rfl rfl) (k' := 764) rfl (by decide) (zcal72 (xs := [.ref ao, .int v2, .int v0, .ref ax]) (rest := []) (by omega) rfl rfl (Nat.le_of_ble_eq_true rfl) (M' := z_m339) rfl (Nat.le_of_ble_eq_true rfl)) (H 298 _ rfl) rfl (by show 25 + 1 ≤ d; omega) rfl (by decide +kernel) (by decide +kernel) (by decide +kernel) ⟨⟨ax, 1, rfl, I.2.2.1, Int.le_refl _, Int.le_refl _⟩, zFull_ok _, ⟨_, rfl, hv2.1, hv2.2⟩, ⟨ao, 33, rfl, I.2.2.2.2.1, Int.le_refl _, Int.le_refl _⟩, trivial⟩ sq_339 rfl (fun ty1 h1 w1 x1 y1 I1 V1 G1 cx1 cy1 l1 => ?_)
  have cx1 : x1 ≤ 1 := cx1
  have cy1 : y1 ≤ 6 := cy1
  match w1, V1, G1 with
  | some w1, V1, G1 =>
  obtain ⟨c1, rfl, -⟩ := V1
  have G1 : p_339 ax v0 v2 ao (za h) c1 (za h1) := by
    obtain ⟨r9, er9, g9⟩ := G1
    have er9 : r9 = c1 := by cases er9; rfl
    rw [er9] at g9
    exact g9
  show z_ok sx d 343 764 lo [.int c1] h1 _
  refine zh_ist zJ_343 (a := 5) (b := 0) (z := 0) (zQf (k := 764) 28 zQd_23 rfl rfl) (k' := 765) rfl ?_
  refine zh_ald zJ_343 (k' := 766) (zQf (k := 765) 29 zQd_23 rfl rfl) rfl (Lv.set (b := 5) (v := c1) (by omega)).2.2.1 ?_
  refine zscr 766 767 768 769 770 771 1 (zQf (k := 766) 30 zQd_23 rfl rfl) (zQf (k := 767) 31 zQd_23 rfl rfl) (zQf (k := 768) 0 zQd_24 rfl rfl) (zQf (k := 769) 1 zQd_24 rfl rfl) (zQf (k := 770) 2 zQd_24 rfl rfl) rfl rfl rfl rfl rfl rfl (by omega) (Lv.set (b := 5) (v := c1) (by omega)) hi hL (fun v3 ev3 => ?_)
  refine zscr 771 772 773 774 775 776 2 (zQf (k := 771) 3 zQd_24 rfl rfl) (zQf (k := 772) 4 zQd_24 rfl rfl) (zQf (k := 773) 5 zQd_24 rfl rfl) (zQf (k := 774) 6 zQd_24 rfl rfl) (zQf (k := 775) 7 zQd_24 rfl rfl) rfl rfl rfl rfl rfl rfl (by omega) (Lv.set (b := 5) (v := c1) (by omega)) hi hL (fun v4 ev4 => ?_)
  refine zboo 776 777 778 779 780 (zQf (k := 776) 8 zQd_24 rfl rfl) (zQf (k := 777) 9 zQd_24 rfl rfl) (zQf (k := 778) 10 zQd_24 rfl rfl) (zQf (k := 779) 11 zQd_24 rfl rfl) rfl rfl rfl (fun v5 hv5 ev5 => ?_)
  obtain ⟨fs1, he1, -⟩ := zcell0 (c := 9) (n := 23) I1.1 I1.2.2.2.1 rfl rfl rfl
  refine zlcq (ct := zC269) (as := [.ref am, .int v3, .int v5]) (i := (54, 304, 2, 9)) I1 (zQf (k := 780) 12 zQd_24 rfl rfl) (k' := 781) rfl (by decide) (zcal54 (xs := [.int v5, .int v3]) (rest := []) (by omega) rfl rfl he1 rfl (Nat.le_of_ble_eq_true rfl) (M' := z_m304) rfl (Nat.le_of_ble_eq_true rfl)) (H 269 _ rfl) rfl (by show 27 + 1 ≤ d; omega) rfl (by decide +kernel) (by decide +kernel) (by decide +kernel) ⟨⟨am, 20, rfl, I1.2.2.2.1, Int.le_refl _, Int.le_refl _⟩, zFull_ok _, ⟨_, rfl, hv5.1, hv5.2⟩, trivial⟩ sq_304 rfl (fun ty2 h2 w2 x2 y2 I2 V2 G2 cx2 cy2 l2 => ?_)
  have cx2 : x2 ≤ 0 := cx2
  have cy2 : y2 ≤ 0 := cy2
  match w2, V2, G2 with
  | some w2, V2, G2 =>
  obtain ⟨c2, rfl, -⟩ := V2
  have G2 : p_304 am v3 v5 (za h1) c2 (za h2) := by
    obtain ⟨r9, er9, g9⟩ := G2
    have er9 : r9 = c2 := by cases er9; rfl
    rw [er9] at g9
    exact g9
  have ee0 : v3 = v0 := by rw [ev3, ev0]
  have ee1 : v5 = v2 := by rw [ev5, ev4, ev2, ev1]
  rw [ee0, ee1] at G2
  have Z2 : zHld (za h2) := by
    obtain ⟨⟨rfl, rfl, rfl⟩, -⟩ := I.lx
    obtain ⟨p0, w0, K0, R0⟩ := I.hd
    exact zq_39 w0 K0 R0 G1 G2
  have I2 := I2.w Z2
  show z_ok sx d 343 781 (z_set1 lo 5 (.int c1)) [.int c2] h2 _
  refine zh_ist zJ_343 (a := 6) (b := 0) (z := 0) (zQf (k := 781) 13 zQd_24 rfl rfl) (k' := 782) rfl ?_
  refine zgoto (zQf (k := 782) 14 zQd_24 rfl rfl) ?_
  exact K.use I2 ((Lv.set (b := 5) (v := c1) (by omega)).set (b := 6) (v := c2) (by omega)) (by omega) (by omega) (by omega)
set_option maxRecDepth 100000 in
theorem zcs_40 {sx : zX} {d : Nat} {ty : List Nat} {lo : zL} {h : zH} {Ψ : zO → zH → Nat → Nat → Prop} {ax am ao i : Nat} {N : Int} (H : ∀ (c : Nat) (c' : zCt), zCtl[c]? = some c' → zVd z_tt zE1 c') (hd : 60 ≤ d) (hi : i + 6 ≤ sx.1) (hL : sx.1 ≤ 3072) (hB : h.length + 6 ≤ zB) (I : zIw ty h ax am ao N) (Lv : zLv lo ax am ao i) (K : zKc sx d ax am ao i h Ψ) : z_ok sx d 343 783 lo [] h Ψ := by
  refine zh_ald zJ_343 (k' := 784) (zQf (k := 783) 15 zQd_24 rfl rfl) rfl Lv.2.1 ?_
  refine zscr 784 785 786 787 788 789 1 (zQf (k := 784) 16 zQd_24 rfl rfl) (zQf (k := 785) 17 zQd_24 rfl rfl) (zQf (k := 786) 18 zQd_24 rfl rfl) (zQf (k := 787) 19 zQd_24 rfl rfl) (zQf (k := 788) 20 zQd_24 rfl rfl) rfl rfl rfl rfl rfl rfl (by omega) Lv hi hL (fun v0 ev0 => ?_)
  refine zscr 789 790 791 792 793 794 2 (zQf (k := 789) 21 zQd_24 rfl rfl) (zQf (k := 790) 22 zQd_24 rfl rfl) (zQf (k := 791) 23 zQd_24 rfl rfl) (zQf (k := 792) 24 zQd_24 rfl rfl) (zQf (k := 793) 25 zQd_24 rfl rfl) rfl rfl rfl rfl rfl rfl (by omega) Lv hi hL (fun v1 ev1 => ?_)
  refine zboo 794 795 796 797 798 (zQf (k := 794) 26 zQd_24 rfl rfl) (zQf (k := 795) 27 zQd_24 rfl rfl) (zQf (k := 796) 28 zQd_24 rfl rfl) (zQf (k := 797) 29 zQd_24 rfl rfl) rfl rfl rfl (fun v2 hv2 ev2 => ?_)
  refine zh_ald zJ_343 (k' := 799) (zQf (k := 798) 30 zQd_24 rfl rfl) rfl Lv.2.2.2.1 ?_
  refine zlcon (ct := zC299) (as := [.ref ax, .int v0, .int v2, .ref ao]) (i := (72, 340, 4, 0)) I (zQf (k := 799) 31 zQd_24 rfl rfl) (k' := 800) rfl (by decide) (zcal72 (xs := [.ref ao, .int v2, .int v0, .ref ax]) (rest := []) (by omega) rfl rfl (Nat.le_of_ble_eq_true rfl) (M' := z_m340) rfl (Nat.le_of_ble_eq_true rfl)) (H 299 _ rfl) rfl (by show 8 + 1 ≤ d; omega) rfl (by decide +kernel) (by decide +kernel) (by decide +kernel) (by decide +kernel) ⟨⟨ax, 1, rfl, I.2.2.1, Int.le_refl _, Int.le_refl _⟩, zFull_ok _, ⟨_, rfl, hv2.1, hv2.2⟩, ⟨ao, 33, rfl, I.2.2.2.2.1, Int.le_refl _, Int.le_refl _⟩, trivial⟩ (fun ty1 h1 w1 x1 y1 I1 V1 cx1 cy1 l1 => ?_)
  have cx1 : x1 ≤ 1 := cx1
  have cy1 : y1 ≤ 6 := cy1
  match w1, V1 with
  | some w1, V1 =>
  obtain ⟨c1, rfl, -⟩ := V1
  show z_ok sx d 343 800 lo [.int c1] h1 _
  refine zh_ist zJ_343 (a := 5) (b := 0) (z := 0) (zQf (k := 800) 0 zQd_25 rfl rfl) (k' := 801) rfl ?_
  refine zh_ald zJ_343 (k' := 802) (zQf (k := 801) 1 zQd_25 rfl rfl) rfl (Lv.set (b := 5) (v := c1) (by omega)).2.2.1 ?_
  refine zscr 802 803 804 805 806 807 1 (zQf (k := 802) 2 zQd_25 rfl rfl) (zQf (k := 803) 3 zQd_25 rfl rfl) (zQf (k := 804) 4 zQd_25 rfl rfl) (zQf (k := 805) 5 zQd_25 rfl rfl) (zQf (k := 806) 6 zQd_25 rfl rfl) rfl rfl rfl rfl rfl rfl (by omega) (Lv.set (b := 5) (v := c1) (by omega)) hi hL (fun v3 ev3 => ?_)
  refine zscr 807 808 809 810 811 812 2 (zQf (k := 807) 7 zQd_25 rfl rfl) (zQf (k := 808) 8 zQd_25 rfl rfl) (zQf (k := 809) 9 zQd_25 rfl rfl) (zQf (k := 810) 10 zQd_25 rfl rfl) (zQf (k := 811) 11 zQd_25 rfl rfl) rfl rfl rfl rfl rfl rfl (by omega) (Lv.set (b := 5) (v := c1) (by omega)) hi hL (fun v4 ev4 => ?_)
  refine zboo 812 813 814 815 816 (zQf (k := 812) 12 zQd_25 rfl rfl) (zQf (k := 813) 13 zQd_25 rfl rfl) (zQf (k := 814) 14 zQd_25 rfl rfl) (zQf (k := 815) 15 zQd_25 rfl rfl) rfl rfl rfl (fun v5 hv5 ev5 => ?_)
  obtain ⟨fs1, he1, -⟩ := zcell0 (c := 9) (n := 23) I1.1 I1.2.2.2.1 rfl rfl rfl
  refine zlcq (ct := zC270) (as := [.ref am, .int v3, .int v5]) (i := (54, 305, 2, 9)) I1.v (zQf (k := 816) 16 zQd_25 rfl rfl) (k' := 817) rfl (by decide) (zcal54 (xs := [.int v5, .int v3]) (rest := []) (by omega) rfl rfl he1 rfl (Nat.le_of_ble_eq_true rfl) (M' := z_m305) rfl (Nat.le_of_ble_eq_true rfl)) (H 270 _ rfl) rfl (by show 27 + 1 ≤ d; omega) rfl (by decide +kernel) (by decide +kernel) (by decide +kernel) ⟨⟨am, 20, rfl, I1.2.2.2.1, Int.le_refl _, Int.le_refl _⟩, zFull_ok _, ⟨_, rfl, hv5.1, hv5.2⟩, trivial⟩ sq_305 rfl (fun ty2 h2 w2 x2 y2 I2 V2 G2 cx2 cy2 l2 => ?_)
  have cx2 : x2 ≤ 0 := cx2
  have cy2 : y2 ≤ 0 := cy2
  match w2, V2, G2 with
  | some w2, V2, G2 =>
  obtain ⟨c2, rfl, -⟩ := V2
  have G2 : p_305 am v3 v5 (za h1) c2 (za h2) := by
    obtain ⟨r9, er9, g9⟩ := G2
    have er9 : r9 = c2 := by cases er9; rfl
    rw [er9] at g9
    exact g9
  have Z2 : zHld (za h2) := by
    obtain ⟨⟨rfl, rfl, rfl⟩, -⟩ := I1.lx
    obtain ⟨p0, w0, K0, R0⟩ := I1.hd
    exact zq_40 (σ1 := za h1) w0 K0 R0 G2
  have I2 := I2.w Z2
  show z_ok sx d 343 817 (z_set1 lo 5 (.int c1)) [.int c2] h2 _
  refine zh_ist zJ_343 (a := 6) (b := 0) (z := 0) (zQf (k := 817) 17 zQd_25 rfl rfl) (k' := 818) rfl ?_
  refine zgoto (zQf (k := 818) 18 zQd_25 rfl rfl) ?_
  exact K.use I2 ((Lv.set (b := 5) (v := c1) (by omega)).set (b := 6) (v := c2) (by omega)) (by omega) (by omega) (by omega)
set_option maxRecDepth 100000 in
theorem zcs_41 {sx : zX} {d : Nat} {ty : List Nat} {lo : zL} {h : zH} {Ψ : zO → zH → Nat → Nat → Prop} {ax am ao i : Nat} {N : Int} (H : ∀ (c : Nat) (c' : zCt), zCtl[c]? = some c' → zVd z_tt zE1 c') (hd : 60 ≤ d) (hi : i + 6 ≤ sx.1) (hL : sx.1 ≤ 3072) (hB : h.length + 6 ≤ zB) (I : zIw ty h ax am ao N) (Lv : zLv lo ax am ao i) (K : zKc sx d ax am ao i h Ψ) : z_ok sx d 343 819 lo [] h Ψ := by
  refine zh_ald zJ_343 (k' := 820) (zQf (k := 819) 19 zQd_25 rfl rfl) rfl Lv.2.1 ?_
  refine zscr 820 821 822 823 824 825 1 (zQf (k := 820) 20 zQd_25 rfl rfl) (zQf (k := 821) 21 zQd_25 rfl rfl) (zQf (k := 822) 22 zQd_25 rfl rfl) (zQf (k := 823) 23 zQd_25 rfl rfl) (zQf (k := 824) 24 zQd_25 rfl rfl) rfl rfl rfl rfl rfl rfl (by omega) Lv hi hL (fun v0 ev0 => ?_)
  refine zscr 825 826 827 828 829 830 2 (zQf (k := 825) 25 zQd_25 rfl rfl) (zQf (k := 826) 26 zQd_25 rfl rfl) (zQf (k := 827) 27 zQd_25 rfl rfl) (zQf (k := 828) 28 zQd_25 rfl rfl) (zQf (k := 829) 29 zQd_25 rfl rfl) rfl rfl rfl rfl rfl rfl (by omega) Lv hi hL (fun v1 ev1 => ?_)
  refine zboo 830 831 832 833 834 (zQf (k := 830) 30 zQd_25 rfl rfl) (zQf (k := 831) 31 zQd_25 rfl rfl) (zQf (k := 832) 0 zQd_26 rfl rfl) (zQf (k := 833) 1 zQd_26 rfl rfl) rfl rfl rfl (fun v2 hv2 ev2 => ?_)
  refine zh_ald zJ_343 (k' := 835) (zQf (k := 834) 2 zQd_26 rfl rfl) rfl Lv.2.2.2.1 ?_
  refine zlcon (ct := zC300) (as := [.ref ax, .int v0, .int v2, .ref ao]) (i := (72, 341, 4, 0)) I (zQf (k := 835) 3 zQd_26 rfl rfl) (k' := 836) rfl (by decide) (zcal72 (xs := [.ref ao, .int v2, .int v0, .ref ax]) (rest := []) (by omega) rfl rfl (Nat.le_of_ble_eq_true rfl) (M' := z_m341) rfl (Nat.le_of_ble_eq_true rfl)) (H 300 _ rfl) rfl (by show 8 + 1 ≤ d; omega) rfl (by decide +kernel) (by decide +kernel) (by decide +kernel) (by decide +kernel) ⟨⟨ax, 1, rfl, I.2.2.1, Int.le_refl _, Int.le_refl _⟩, zFull_ok _, ⟨_, rfl, hv2.1, hv2.2⟩, ⟨ao, 33, rfl, I.2.2.2.2.1, Int.le_refl _, Int.le_refl _⟩, trivial⟩ (fun ty1 h1 w1 x1 y1 I1 V1 cx1 cy1 l1 => ?_)
  have cx1 : x1 ≤ 1 := cx1
  have cy1 : y1 ≤ 6 := cy1
  match w1, V1 with
  | some w1, V1 =>
  obtain ⟨c1, rfl, -⟩ := V1
  show z_ok sx d 343 836 lo [.int c1] h1 _
  refine zh_ist zJ_343 (a := 5) (b := 0) (z := 0) (zQf (k := 836) 4 zQd_26 rfl rfl) (k' := 837) rfl ?_
  refine zh_ald zJ_343 (k' := 838) (zQf (k := 837) 5 zQd_26 rfl rfl) rfl (Lv.set (b := 5) (v := c1) (by omega)).2.2.1 ?_
  refine zscr 838 839 840 841 842 843 1 (zQf (k := 838) 6 zQd_26 rfl rfl) (zQf (k := 839) 7 zQd_26 rfl rfl) (zQf (k := 840) 8 zQd_26 rfl rfl) (zQf (k := 841) 9 zQd_26 rfl rfl) (zQf (k := 842) 10 zQd_26 rfl rfl) rfl rfl rfl rfl rfl rfl (by omega) (Lv.set (b := 5) (v := c1) (by omega)) hi hL (fun v3 ev3 => ?_)
  refine zscr 843 844 845 846 847 848 2 (zQf (k := 843) 11 zQd_26 rfl rfl) (zQf (k := 844) 12 zQd_26 rfl rfl) (zQf (k := 845) 13 zQd_26 rfl rfl) (zQf (k := 846) 14 zQd_26 rfl rfl) (zQf (k := 847) 15 zQd_26 rfl rfl) rfl rfl rfl rfl rfl rfl (by omega) (Lv.set (b := 5) (v := c1) (by omega)) hi hL (fun v4 ev4 => ?_)
  refine zboo 848 849 850 851 852 (zQf (k := 848) 16 zQd_26 rfl rfl) (zQf (k := 849) 17 zQd_26 rfl rfl) (zQf (k := 850) 18 zQd_26 rfl rfl) (zQf (k := 851) 19 zQd_26 rfl rfl) rfl rfl rfl (fun v5 hv5 ev5 => ?_)
  obtain ⟨fs1, he1, -⟩ := zcell0 (c := 9) (n := 23) I1.1 I1.2.2.2.1 rfl rfl rfl
  refine zlcon (ct := zC221) (as := [.ref am, .int v3, .int v5]) (i := (54, 307, 2, 9)) I1 (zQf (k := 852) 20 zQd_26 rfl rfl) (k' := 853) rfl (by decide) (zcal54 (xs := [.int v5, .int v3]) (rest := []) (by omega) rfl rfl he1 rfl (Nat.le_of_ble_eq_true rfl) (M' := z_m307) rfl (Nat.le_of_ble_eq_true rfl)) (H 221 _ rfl) rfl (by show 2 + 1 ≤ d; omega) rfl (by decide +kernel) (by decide +kernel) (by decide +kernel) (by decide +kernel) ⟨⟨am, 20, rfl, I1.2.2.2.1, Int.le_refl _, Int.le_refl _⟩, zFull_ok _, ⟨_, rfl, hv5.1, hv5.2⟩, trivial⟩ (fun ty2 h2 w2 x2 y2 I2 V2 cx2 cy2 l2 => ?_)
  have cx2 : x2 ≤ 0 := cx2
  have cy2 : y2 ≤ 0 := cy2
  match w2, V2 with
  | some w2, V2 =>
  obtain ⟨c2, rfl, -⟩ := V2
  show z_ok sx d 343 853 (z_set1 lo 5 (.int c1)) [.int c2] h2 _
  refine zh_ist zJ_343 (a := 6) (b := 0) (z := 0) (zQf (k := 853) 21 zQd_26 rfl rfl) (k' := 854) rfl ?_
  refine zgoto (zQf (k := 854) 22 zQd_26 rfl rfl) ?_
  exact K.use I2 ((Lv.set (b := 5) (v := c1) (by omega)).set (b := 6) (v := c2) (by omega)) (by omega) (by omega) (by omega)
set_option maxRecDepth 100000 in
theorem zcs_42 {sx : zX} {d : Nat} {ty : List Nat} {lo : zL} {h : zH} {Ψ : zO → zH → Nat → Nat → Prop} {ax am ao i : Nat} {N : Int} (H : ∀ (c : Nat) (c' : zCt), zCtl[c]? = some c' → zVd z_tt zE1 c') (hd : 60 ≤ d) (hi : i + 6 ≤ sx.1) (hL : sx.1 ≤ 3072) (hB : h.length + 6 ≤ zB) (I : zIw ty h ax am ao N) (Lv : zLv lo ax am ao i) (K : zKc sx d ax am ao i h Ψ) : z_ok sx d 343 855 lo [] h Ψ := by
  refine zh_ald zJ_343 (k' := 856) (zQf (k := 855) 23 zQd_26 rfl rfl) rfl Lv.2.1 ?_
  refine zscr 856 857 858 859 860 861 1 (zQf (k := 856) 24 zQd_26 rfl rfl) (zQf (k := 857) 25 zQd_26 rfl rfl) (zQf (k := 858) 26 zQd_26 rfl rfl) (zQf (k := 859) 27 zQd_26 rfl rfl) (zQf (k := 860) 28 zQd_26 rfl rfl) rfl rfl rfl rfl rfl rfl (by omega) Lv hi hL (fun v0 ev0 => ?_)
  refine zscr 861 862 863 864 865 866 2 (zQf (k := 861) 29 zQd_26 rfl rfl) (zQf (k := 862) 30 zQd_26 rfl rfl) (zQf (k := 863) 31 zQd_26 rfl rfl) (zQf (k := 864) 0 zQd_27 rfl rfl) (zQf (k := 865) 1 zQd_27 rfl rfl) rfl rfl rfl rfl rfl rfl (by omega) Lv hi hL (fun v1 ev1 => ?_)
  refine zh_ald zJ_343 (k' := 867) (zQf (k := 866) 2 zQd_27 rfl rfl) rfl Lv.2.2.2.1 ?_
  refine zlcon (ct := zC301) (as := [.ref ax, .int v0, .int v1, .ref ao]) (i := (72, 342, 4, 0)) I (zQf (k := 867) 3 zQd_27 rfl rfl) (k' := 868) rfl (by decide) (zcal72 (xs := [.ref ao, .int v1, .int v0, .ref ax]) (rest := []) (by omega) rfl rfl (Nat.le_of_ble_eq_true rfl) (M' := z_m342) rfl (Nat.le_of_ble_eq_true rfl)) (H 301 _ rfl) rfl (by show 8 + 1 ≤ d; omega) rfl (by decide +kernel) (by decide +kernel) (by decide +kernel) (by decide +kernel) ⟨⟨ax, 1, rfl, I.2.2.1, Int.le_refl _, Int.le_refl _⟩, zFull_ok _, zFull_ok _, ⟨ao, 33, rfl, I.2.2.2.2.1, Int.le_refl _, Int.le_refl _⟩, trivial⟩ (fun ty1 h1 w1 x1 y1 I1 V1 cx1 cy1 l1 => ?_)
  have cx1 : x1 ≤ 1 := cx1
  have cy1 : y1 ≤ 6 := cy1
  match w1, V1 with
  | some w1, V1 =>
  obtain ⟨c1, rfl, -⟩ := V1
  show z_ok sx d 343 868 lo [.int c1] h1 _
  refine zh_ist zJ_343 (a := 5) (b := 0) (z := 0) (zQf (k := 868) 4 zQd_27 rfl rfl) (k' := 869) rfl ?_
  refine zh_ald zJ_343 (k' := 870) (zQf (k := 869) 5 zQd_27 rfl rfl) rfl (Lv.set (b := 5) (v := c1) (by omega)).2.2.1 ?_
  refine zscr 870 871 872 873 874 875 1 (zQf (k := 870) 6 zQd_27 rfl rfl) (zQf (k := 871) 7 zQd_27 rfl rfl) (zQf (k := 872) 8 zQd_27 rfl rfl) (zQf (k := 873) 9 zQd_27 rfl rfl) (zQf (k := 874) 10 zQd_27 rfl rfl) rfl rfl rfl rfl rfl rfl (by omega) (Lv.set (b := 5) (v := c1) (by omega)) hi hL (fun v2 ev2 => ?_)
  refine zscr 875 876 877 878 879 880 2 (zQf (k := 875) 11 zQd_27 rfl rfl) (zQf (k := 876) 12 zQd_27 rfl rfl) (zQf (k := 877) 13 zQd_27 rfl rfl) (zQf (k := 878) 14 zQd_27 rfl rfl) (zQf (k := 879) 15 zQd_27 rfl rfl) rfl rfl rfl rfl rfl rfl (by omega) (Lv.set (b := 5) (v := c1) (by omega)) hi hL (fun v3 ev3 => ?_)
  obtain ⟨fs1, he1, -⟩ := zcell0 (c := 9) (n := 23) I1.1 I1.2.2.2.1 rfl rfl rfl
  refine zlcon (ct := zC222) (as := [.ref am, .int v2, .int v3]) (i := (54, 308, 2, 9)) I1 (zQf (k := 880) 16 zQd_27 rfl rfl) (k' := 881) rfl (by decide) (zcal54 (xs := [.int v3, .int v2]) (rest := []) (by omega) rfl rfl he1 rfl (Nat.le_of_ble_eq_true rfl) (M' := z_m308) rfl (Nat.le_of_ble_eq_true rfl)) (H 222 _ rfl) rfl (by show 1 + 1 ≤ d; omega) rfl (by decide +kernel) (by decide +kernel) (by decide +kernel) (by decide +kernel) ⟨⟨am, 20, rfl, I1.2.2.2.1, Int.le_refl _, Int.le_refl _⟩, zFull_ok _, zFull_ok _, trivial⟩ (fun ty2 h2 w2 x2 y2 I2 V2 cx2 cy2 l2 => ?_)
  have cx2 : x2 ≤ 0 := cx2
  have cy2 : y2 ≤ 0 := cy2
  match w2, V2 with
  | some w2, V2 =>
  obtain ⟨c2, rfl, -⟩ := V2
  show z_ok sx d 343 881 (z_set1 lo 5 (.int c1)) [.int c2] h2 _
  refine zh_ist zJ_343 (a := 6) (b := 0) (z := 0) (zQf (k := 881) 17 zQd_27 rfl rfl) (k' := 882) rfl ?_
  refine zgoto (zQf (k := 882) 18 zQd_27 rfl rfl) ?_
  exact K.use I2 ((Lv.set (b := 5) (v := c1) (by omega)).set (b := 6) (v := c2) (by omega)) (by omega) (by omega) (by omega)
set_option maxRecDepth 100000 in
theorem zcs_43 {sx : zX} {d : Nat} {ty : List Nat} {lo : zL} {h : zH} {Ψ : zO → zH → Nat → Nat → Prop} {ax am ao i : Nat} {N : Int} (H : ∀ (c : Nat) (c' : zCt), zCtl[c]? = some c' → zVd z_tt zE1 c') (hd : 60 ≤ d) (hi : i + 6 ≤ sx.1) (hL : sx.1 ≤ 3072) (hB : h.length + 6 ≤ zB) (I : zIw ty h ax am ao N) (Lv : zLv lo ax am ao i) (K : zKc sx d ax am ao i h Ψ) : z_ok sx d 343 883 lo [] h Ψ := by
  refine zh_ald zJ_343 (k' := 884) (zQf (k := 883) 19 zQd_27 rfl rfl) rfl Lv.2.1 ?_
  refine zscr 884 885 886 887 888 889 1 (zQf (k := 884) 20 zQd_27 rfl rfl) (zQf (k := 885) 21 zQd_27 rfl rfl) (zQf (k := 886) 22 zQd_27 rfl rfl) (zQf (k := 887) 23 zQd_27 rfl rfl) (zQf (k := 888) 24 zQd_27 rfl rfl) rfl rfl rfl rfl rfl rfl (by omega) Lv hi hL (fun v0 ev0 => ?_)
  obtain ⟨fs0, he0, -⟩ := zcell0 (c := 8) (n := 8) I.1 I.2.2.1 rfl rfl rfl
  refine zlcq (ct := zC171) (as := [.ref ax, .int v0]) (i := (54, 161, 1, 8)) I.v (zQf (k := 889) 25 zQd_27 rfl rfl) (k' := 890) rfl (by decide) (zcal54 (xs := [.int v0]) (rest := []) (by omega) rfl rfl he0 rfl (Nat.le_of_ble_eq_true rfl) (M' := z_m161) rfl (Nat.le_of_ble_eq_true rfl)) (H 171 _ rfl) rfl (by show 0 + 1 ≤ d; omega) rfl (by decide +kernel) (by decide +kernel) (by decide +kernel) ⟨⟨ax, 1, rfl, I.2.2.1, Int.le_refl _, Int.le_refl _⟩, zFull_ok _, trivial⟩ sq_161 rfl (fun ty1 h1 w1 x1 y1 I1 V1 G1 cx1 cy1 l1 => ?_)
  have cx1 : x1 ≤ 0 := cx1
  have cy1 : y1 ≤ 0 := cy1
  match w1, V1, G1 with
  | some w1, V1, G1 =>
  obtain ⟨c1, rfl, -⟩ := V1
  have G1 : p_161 ax v0 (za h) c1 (za h1) := by
    obtain ⟨r9, er9, g9⟩ := G1
    have er9 : r9 = c1 := by cases er9; rfl
    rw [er9] at g9
    exact g9
  show z_ok sx d 343 890 lo [.int c1] h1 _
  refine zpop (zQf (k := 890) 26 zQd_27 rfl rfl) (k' := 891) rfl ?_
  refine zh_ald zJ_343 (k' := 892) (zQf (k := 891) 27 zQd_27 rfl rfl) rfl Lv.2.2.1 ?_
  refine zscr 892 893 894 895 896 897 1 (zQf (k := 892) 28 zQd_27 rfl rfl) (zQf (k := 893) 29 zQd_27 rfl rfl) (zQf (k := 894) 30 zQd_27 rfl rfl) (zQf (k := 895) 31 zQd_27 rfl rfl) (zQf (k := 896) 0 zQd_28 rfl rfl) rfl rfl rfl rfl rfl rfl (by omega) Lv hi hL (fun v1 ev1 => ?_)
  obtain ⟨fs1, he1, -⟩ := zcell0 (c := 9) (n := 23) I1.1 I1.2.2.2.1 rfl rfl rfl
  refine zlcq (ct := zC223) (as := [.ref am, .int v1]) (i := (54, 309, 1, 9)) I1 (zQf (k := 897) 1 zQd_28 rfl rfl) (k' := 898) rfl (by decide) (zcal54 (xs := [.int v1]) (rest := []) (by omega) rfl rfl he1 rfl (Nat.le_of_ble_eq_true rfl) (M' := z_m309) rfl (Nat.le_of_ble_eq_true rfl)) (H 223 _ rfl) rfl (by show 0 + 1 ≤ d; omega) rfl (by decide +kernel) (by decide +kernel) (by decide +kernel) ⟨⟨am, 20, rfl, I1.2.2.2.1, Int.le_refl _, Int.le_refl _⟩, zFull_ok _, trivial⟩ sq_309 rfl (fun ty2 h2 w2 x2 y2 I2 V2 G2 cx2 cy2 l2 => ?_)
  have cx2 : x2 ≤ 0 := cx2
  have cy2 : y2 ≤ 0 := cy2
  match w2, V2, G2 with
  | some w2, V2, G2 =>
  obtain ⟨c2, rfl, -⟩ := V2
  have G2 : p_309 am v1 (za h1) c2 (za h2) := by
    obtain ⟨r9, er9, g9⟩ := G2
    have er9 : r9 = c2 := by cases er9; rfl
    rw [er9] at g9
    exact g9
  have ee0 : v1 = v0 := by rw [ev1, ev0]
  rw [ee0] at G2
  have Z2 : zHld (za h2) ∧ c1 = c2 := by
    obtain ⟨⟨rfl, rfl, rfl⟩, -⟩ := I.lx
    obtain ⟨p0, w0, K0, R0⟩ := I.hd
    exact zq_43 w0 K0 R0 G1 G2
  have I2 := I2.w Z2.1
  have ec : c1.toInt = c2.toInt := congrArg Int32.toInt Z2.2
  show z_ok sx d 343 898 lo [.int c2] h2 _
  refine zpop (zQf (k := 898) 2 zQd_28 rfl rfl) (k' := 899) rfl ?_
  refine zgoto (zQf (k := 899) 3 zQd_28 rfl rfl) ?_
  exact K.use I2 Lv (by omega) (by omega) (by omega)
set_option maxRecDepth 100000 in
theorem zcs_44 {sx : zX} {d : Nat} {ty : List Nat} {lo : zL} {h : zH} {Ψ : zO → zH → Nat → Nat → Prop} {ax am ao i : Nat} {N : Int} (H : ∀ (c : Nat) (c' : zCt), zCtl[c]? = some c' → zVd z_tt zE1 c') (hd : 60 ≤ d) (hi : i + 6 ≤ sx.1) (hL : sx.1 ≤ 3072) (hB : h.length + 6 ≤ zB) (I : zIw ty h ax am ao N) (Lv : zLv lo ax am ao i) (K : zKc sx d ax am ao i h Ψ) : z_ok sx d 343 900 lo [] h Ψ := by
  refine zh_ald zJ_343 (k' := 901) (zQf (k := 900) 4 zQd_28 rfl rfl) rfl Lv.2.1 ?_
  obtain ⟨fs0, he0, -⟩ := zcell0 (c := 8) (n := 8) I.1 I.2.2.1 rfl rfl rfl
  refine zlcq (ct := zC173) (as := [.ref ax]) (i := (54, 162, 0, 8)) I.v (zQf (k := 901) 5 zQd_28 rfl rfl) (k' := 902) rfl (by decide) (zcal54 (xs := []) (rest := []) (by omega) rfl rfl he0 rfl (Nat.le_of_ble_eq_true rfl) (M' := z_m162) rfl (Nat.le_of_ble_eq_true rfl)) (H 173 _ rfl) rfl (by show 9 + 1 ≤ d; omega) rfl (by decide +kernel) (by decide +kernel) (by decide +kernel) ⟨⟨ax, 1, rfl, I.2.2.1, Int.le_refl _, Int.le_refl _⟩, trivial⟩ sq_162 rfl (fun ty1 h1 w1 x1 y1 I1 V1 G1 cx1 cy1 l1 => ?_)
  have cx1 : x1 ≤ 0 := cx1
  have cy1 : y1 ≤ 0 := cy1
  match w1, V1, G1 with
  | some w1, V1, G1 =>
  obtain ⟨c1, rfl, -⟩ := V1
  have G1 : p_162 ax (za h) c1 (za h1) := by
    obtain ⟨r9, er9, g9⟩ := G1
    have er9 : r9 = c1 := by cases er9; rfl
    rw [er9] at g9
    exact g9
  show z_ok sx d 343 902 lo [.int c1] h1 _
  refine zpop (zQf (k := 902) 6 zQd_28 rfl rfl) (k' := 903) rfl ?_
  refine zh_ald zJ_343 (k' := 904) (zQf (k := 903) 7 zQd_28 rfl rfl) rfl Lv.2.2.1 ?_
  obtain ⟨fs1, he1, -⟩ := zcell0 (c := 9) (n := 23) I1.1 I1.2.2.2.1 rfl rfl rfl
  refine zlcq (ct := zC31) (as := [.ref am]) (i := (54, 183, 0, 9)) I1 (zQf (k := 904) 8 zQd_28 rfl rfl) (k' := 905) rfl (by decide) (zcal54 (xs := []) (rest := []) (by omega) rfl rfl he1 rfl (Nat.le_of_ble_eq_true rfl) (M' := z_m183) rfl (Nat.le_of_ble_eq_true rfl)) (H 31 _ rfl) rfl (by show 0 + 1 ≤ d; omega) rfl (by decide +kernel) (by decide +kernel) (by decide +kernel) ⟨⟨am, 20, rfl, I1.2.2.2.1, Int.le_refl _, Int.le_refl _⟩, trivial⟩ sq_183 rfl (fun ty2 h2 w2 x2 y2 I2 V2 G2 cx2 cy2 l2 => ?_)
  have cx2 : x2 ≤ 0 := cx2
  have cy2 : y2 ≤ 0 := cy2
  match w2, V2, G2 with
  | some w2, V2, G2 =>
  obtain ⟨c2, rfl, -⟩ := V2
  have G2 : p_183 am (za h1) c2 (za h2) := by
    obtain ⟨r9, er9, g9⟩ := G2
    have er9 : r9 = c2 := by cases er9; rfl
    rw [er9] at g9
    exact g9
  have Z2 : zHld (za h2) ∧ c1 = c2 := by
    obtain ⟨⟨rfl, rfl, rfl⟩, -⟩ := I.lx
    obtain ⟨p0, w0, K0, R0⟩ := I.hd
    exact zq_44 w0 K0 R0 G1 G2
  have I2 := I2.w Z2.1
  have ec : c1.toInt = c2.toInt := congrArg Int32.toInt Z2.2
  show z_ok sx d 343 905 lo [.int c2] h2 _
  refine zpop (zQf (k := 905) 9 zQd_28 rfl rfl) (k' := 906) rfl ?_
  refine zgoto (zQf (k := 906) 10 zQd_28 rfl rfl) ?_
  exact K.use I2 Lv (by omega) (by omega) (by omega)
set_option maxRecDepth 100000 in
theorem zcs_45 {sx : zX} {d : Nat} {ty : List Nat} {lo : zL} {h : zH} {Ψ : zO → zH → Nat → Nat → Prop} {ax am ao i : Nat} {N : Int} (H : ∀ (c : Nat) (c' : zCt), zCtl[c]? = some c' → zVd z_tt zE1 c') (hd : 60 ≤ d) (hi : i + 6 ≤ sx.1) (hL : sx.1 ≤ 3072) (hB : h.length + 6 ≤ zB) (I : zIw ty h ax am ao N) (Lv : zLv lo ax am ao i) (K : zKc sx d ax am ao i h Ψ) : z_ok sx d 343 907 lo [] h Ψ := by
  refine zh_ald zJ_343 (k' := 908) (zQf (k := 907) 11 zQd_28 rfl rfl) rfl Lv.2.1 ?_
  obtain ⟨fs0, he0, -⟩ := zcell0 (c := 8) (n := 8) I.1 I.2.2.1 rfl rfl rfl
  refine zlcq (ct := zC174) (as := [.ref ax]) (i := (54, 163, 0, 8)) I.v (zQf (k := 908) 12 zQd_28 rfl rfl) (k' := 909) rfl (by decide) (zcal54 (xs := []) (rest := []) (by omega) rfl rfl he0 rfl (Nat.le_of_ble_eq_true rfl) (M' := z_m163) rfl (Nat.le_of_ble_eq_true rfl)) (H 174 _ rfl) rfl (by show 8 + 1 ≤ d; omega) rfl (by decide +kernel) (by decide +kernel) (by decide +kernel) ⟨⟨ax, 1, rfl, I.2.2.1, Int.le_refl _, Int.le_refl _⟩, trivial⟩ sq_163 rfl (fun ty1 h1 w1 x1 y1 I1 V1 G1 cx1 cy1 l1 => ?_)
  have cx1 : x1 ≤ 0 := cx1
  have cy1 : y1 ≤ 0 := cy1
  match w1, V1, G1 with
  | none, V1, G1 =>
  have G1 : p_163 ax (za h) (za h1) := G1.2
  show z_ok sx d 343 909 lo [] h1 _
  refine zh_ald zJ_343 (k' := 910) (zQf (k := 909) 13 zQd_28 rfl rfl) rfl Lv.2.2.1 ?_
  obtain ⟨fs1, he1, -⟩ := zcell0 (c := 9) (n := 23) I1.1 I1.2.2.2.1 rfl rfl rfl
  refine zlcq (ct := zC28) (as := [.ref am]) (i := (54, 180, 0, 9)) I1 (zQf (k := 910) 14 zQd_28 rfl rfl) (k' := 911) rfl (by decide) (zcal54 (xs := []) (rest := []) (by omega) rfl rfl he1 rfl (Nat.le_of_ble_eq_true rfl) (M' := z_m180) rfl (Nat.le_of_ble_eq_true rfl)) (H 28 _ rfl) rfl (by show 0 + 1 ≤ d; omega) rfl (by decide +kernel) (by decide +kernel) (by decide +kernel) ⟨⟨am, 20, rfl, I1.2.2.2.1, Int.le_refl _, Int.le_refl _⟩, trivial⟩ sq_180 rfl (fun ty2 h2 w2 x2 y2 I2 V2 G2 cx2 cy2 l2 => ?_)
  have cx2 : x2 ≤ 0 := cx2
  have cy2 : y2 ≤ 0 := cy2
  match w2, V2, G2 with
  | none, V2, G2 =>
  have G2 : p_180 am (za h1) (za h2) := G2.2
  have Z2 : zHld (za h2) := by
    obtain ⟨⟨rfl, rfl, rfl⟩, -⟩ := I.lx
    obtain ⟨p0, w0, K0, R0⟩ := I.hd
    exact zq_45 w0 K0 R0 G1 G2
  have I2 := I2.w Z2
  show z_ok sx d 343 911 lo [] h2 _
  refine zgoto (zQf (k := 911) 15 zQd_28 rfl rfl) ?_
  exact K.use I2 Lv (by omega) (by omega) (by omega)
set_option maxRecDepth 100000 in
theorem zcs_46 {sx : zX} {d : Nat} {ty : List Nat} {lo : zL} {h : zH} {Ψ : zO → zH → Nat → Nat → Prop} {ax am ao i : Nat} {N : Int} (H : ∀ (c : Nat) (c' : zCt), zCtl[c]? = some c' → zVd z_tt zE1 c') (hd : 60 ≤ d) (hi : i + 6 ≤ sx.1) (hL : sx.1 ≤ 3072) (hB : h.length + 6 ≤ zB) (I : zIw ty h ax am ao N) (Lv : zLv lo ax am ao i) (K : zKc sx d ax am ao i h Ψ) : z_ok sx d 343 912 lo [] h Ψ := by
  refine zh_ald zJ_343 (k' := 913) (zQf (k := 912) 16 zQd_28 rfl rfl) rfl Lv.2.1 ?_
  obtain ⟨fs0, he0, -⟩ := zcell0 (c := 8) (n := 8) I.1 I.2.2.1 rfl rfl rfl
  refine zlcq (ct := zC175) (as := [.ref ax]) (i := (54, 164, 0, 8)) I.v (zQf (k := 913) 17 zQd_28 rfl rfl) (k' := 914) rfl (by decide) (zcal54 (xs := []) (rest := []) (by omega) rfl rfl he0 rfl (Nat.le_of_ble_eq_true rfl) (M' := z_m164) rfl (Nat.le_of_ble_eq_true rfl)) (H 175 _ rfl) rfl (by show 8 + 1 ≤ d; omega) rfl (by decide +kernel) (by decide +kernel) (by decide +kernel) ⟨⟨ax, 1, rfl, I.2.2.1, Int.le_refl _, Int.le_refl _⟩, trivial⟩ sq_164 rfl (fun ty1 h1 w1 x1 y1 I1 V1 G1 cx1 cy1 l1 => ?_)
  have cx1 : x1 ≤ 0 := cx1
  have cy1 : y1 ≤ 0 := cy1
  match w1, V1, G1 with
  | some w1, V1, G1 =>
  obtain ⟨c1, rfl, -⟩ := V1
  have G1 : p_164 ax (za h) c1 (za h1) := by
    obtain ⟨r9, er9, g9⟩ := G1
    have er9 : r9 = c1 := by cases er9; rfl
    rw [er9] at g9
    exact g9
  show z_ok sx d 343 914 lo [.int c1] h1 _
  refine zpop (zQf (k := 914) 18 zQd_28 rfl rfl) (k' := 915) rfl ?_
  refine zh_ald zJ_343 (k' := 916) (zQf (k := 915) 19 zQd_28 rfl rfl) rfl Lv.2.2.1 ?_
  obtain ⟨fs1, he1, -⟩ := zcell0 (c := 9) (n := 23) I1.1 I1.2.2.2.1 rfl rfl rfl
  refine zlcq (ct := zC29) (as := [.ref am]) (i := (54, 181, 0, 9)) I1 (zQf (k := 916) 20 zQd_28 rfl rfl) (k' := 917) rfl (by decide) (zcal54 (xs := []) (rest := []) (by omega) rfl rfl he1 rfl (Nat.le_of_ble_eq_true rfl) (M' := z_m181) rfl (Nat.le_of_ble_eq_true rfl)) (H 29 _ rfl) rfl (by show 0 + 1 ≤ d; omega) rfl (by decide +kernel) (by decide +kernel) (by decide +kernel) ⟨⟨am, 20, rfl, I1.2.2.2.1, Int.le_refl _, Int.le_refl _⟩, trivial⟩ sq_181 rfl (fun ty2 h2 w2 x2 y2 I2 V2 G2 cx2 cy2 l2 => ?_)
  have cx2 : x2 ≤ 0 := cx2
  have cy2 : y2 ≤ 0 := cy2
  match w2, V2, G2 with
  | some w2, V2, G2 =>
  obtain ⟨c2, rfl, -⟩ := V2
  have G2 : p_181 am (za h1) c2 (za h2) := by
    obtain ⟨r9, er9, g9⟩ := G2
    have er9 : r9 = c2 := by cases er9; rfl
    rw [er9] at g9
    exact g9
  have Z2 : zHld (za h2) ∧ c1 = c2 := by
    obtain ⟨⟨rfl, rfl, rfl⟩, -⟩ := I.lx
    obtain ⟨p0, w0, K0, R0⟩ := I.hd
    exact zq_46 w0 K0 R0 G1 G2
  have I2 := I2.w Z2.1
  have ec : c1.toInt = c2.toInt := congrArg Int32.toInt Z2.2
  show z_ok sx d 343 917 lo [.int c2] h2 _
  refine zpop (zQf (k := 917) 21 zQd_28 rfl rfl) (k' := 918) rfl ?_
  refine zgoto (zQf (k := 918) 22 zQd_28 rfl rfl) ?_
  exact K.use I2 Lv (by omega) (by omega) (by omega)
set_option maxRecDepth 100000 in
theorem zcs_47 {sx : zX} {d : Nat} {ty : List Nat} {lo : zL} {h : zH} {Ψ : zO → zH → Nat → Nat → Prop} {ax am ao i : Nat} {N : Int} (H : ∀ (c : Nat) (c' : zCt), zCtl[c]? = some c' → zVd z_tt zE1 c') (hd : 60 ≤ d) (hi : i + 6 ≤ sx.1) (hL : sx.1 ≤ 3072) (hB : h.length + 6 ≤ zB) (I : zIw ty h ax am ao N) (Lv : zLv lo ax am ao i) (K : zKc sx d ax am ao i h Ψ) : z_ok sx d 343 919 lo [] h Ψ := by
  refine zh_ald zJ_343 (k' := 920) (zQf (k := 919) 23 zQd_28 rfl rfl) rfl Lv.2.1 ?_
  refine zscr 920 921 922 923 924 925 1 (zQf (k := 920) 24 zQd_28 rfl rfl) (zQf (k := 921) 25 zQd_28 rfl rfl) (zQf (k := 922) 26 zQd_28 rfl rfl) (zQf (k := 923) 27 zQd_28 rfl rfl) (zQf (k := 924) 28 zQd_28 rfl rfl) rfl rfl rfl rfl rfl rfl (by omega) Lv hi hL (fun v0 ev0 => ?_)
  obtain ⟨fs0, he0, -⟩ := zcell0 (c := 8) (n := 8) I.1 I.2.2.1 rfl rfl rfl
  refine zlcon (ct := zC176) (as := [.ref ax, .int v0]) (i := (54, 165, 1, 8)) I (zQf (k := 925) 29 zQd_28 rfl rfl) (k' := 926) rfl (by decide) (zcal54 (xs := [.int v0]) (rest := []) (by omega) rfl rfl he0 rfl (Nat.le_of_ble_eq_true rfl) (M' := z_m165) rfl (Nat.le_of_ble_eq_true rfl)) (H 176 _ rfl) rfl (by show 3 + 1 ≤ d; omega) rfl (by decide +kernel) (by decide +kernel) (by decide +kernel) (by decide +kernel) ⟨⟨ax, 1, rfl, I.2.2.1, Int.le_refl _, Int.le_refl _⟩, zFull_ok _, trivial⟩ (fun ty1 h1 w1 x1 y1 I1 V1 cx1 cy1 l1 => ?_)
  have cx1 : x1 ≤ 0 := cx1
  have cy1 : y1 ≤ 0 := cy1
  match w1, V1 with
  | some w1, V1 =>
  obtain ⟨c1, rfl, -⟩ := V1
  show z_ok sx d 343 926 lo [.int c1] h1 _
  refine zpop (zQf (k := 926) 30 zQd_28 rfl rfl) (k' := 927) rfl ?_
  refine zh_ald zJ_343 (k' := 928) (zQf (k := 927) 31 zQd_28 rfl rfl) rfl Lv.2.2.1 ?_
  refine zscr 928 929 930 931 932 933 1 (zQf (k := 928) 0 zQd_29 rfl rfl) (zQf (k := 929) 1 zQd_29 rfl rfl) (zQf (k := 930) 2 zQd_29 rfl rfl) (zQf (k := 931) 3 zQd_29 rfl rfl) (zQf (k := 932) 4 zQd_29 rfl rfl) rfl rfl rfl rfl rfl rfl (by omega) Lv hi hL (fun v1 ev1 => ?_)
  obtain ⟨fs1, he1, -⟩ := zcell0 (c := 9) (n := 23) I1.1 I1.2.2.2.1 rfl rfl rfl
  refine zlcon (ct := zC224) (as := [.ref am, .int v1]) (i := (54, 310, 1, 9)) I1 (zQf (k := 933) 5 zQd_29 rfl rfl) (k' := 934) rfl (by decide) (zcal54 (xs := [.int v1]) (rest := []) (by omega) rfl rfl he1 rfl (Nat.le_of_ble_eq_true rfl) (M' := z_m310) rfl (Nat.le_of_ble_eq_true rfl)) (H 224 _ rfl) rfl (by show 4 + 1 ≤ d; omega) rfl (by decide +kernel) (by decide +kernel) (by decide +kernel) (by decide +kernel) ⟨⟨am, 20, rfl, I1.2.2.2.1, Int.le_refl _, Int.le_refl _⟩, zFull_ok _, trivial⟩ (fun ty2 h2 w2 x2 y2 I2 V2 cx2 cy2 l2 => ?_)
  have cx2 : x2 ≤ 0 := cx2
  have cy2 : y2 ≤ 0 := cy2
  match w2, V2 with
  | some w2, V2 =>
  obtain ⟨c2, rfl, -⟩ := V2
  show z_ok sx d 343 934 lo [.int c2] h2 _
  refine zpop (zQf (k := 934) 6 zQd_29 rfl rfl) (k' := 935) rfl ?_
  refine zgoto (zQf (k := 935) 7 zQd_29 rfl rfl) ?_
  exact K.use I2 Lv (by omega) (by omega) (by omega)
end
section
/-! the law's loop; printed with wip/gen/gen_loop.py -/
set_option maxRecDepth 100000 in
theorem zsw_all {sx : zX} {d : Nat} {ty : List Nat} {lo : zL} {h : zH} {Ψ : zO → zH → Nat → Nat → Prop} {ax am ao i : Nat} {N : Int} (H : ∀ (c : Nat) (c' : zCt), zCtl[c]? = some c' → zVd z_tt zE1 c') (hd : 60 ≤ d) (hi : i + 6 ≤ sx.1) (hL : sx.1 ≤ 3072) (hB : h.length + 6 ≤ zB) (I : zIw ty h ax am ao N) (Lv : zLv lo ax am ao i) (K : zKc sx d ax am ao i h Ψ) : ∀ m : Nat, z_ok sx d 343 (((([25, 82, 99, 107, 115, 122, 140, 168, 206, 234, 262, 290, 318, 336, 371, 389, 397, 404, 422, 429, 457, 464, 471, 478, 485, 502, 530, 548, 586, 612, 619, 626, 644, 651, 679, 697, 715, 733, 740, 747, 783, 819, 855, 883, 900, 907, 912, 919] : List Nat))[m]?).getD 936) lo [] h Ψ
  | 0 => zcs_0 H hd hi hL hB I Lv K
  | 1 => zcs_1 H hd hi hL hB I Lv K
  | 2 => zcs_2 H hd hi hL hB I Lv K
  | 3 => zcs_3 H hd hi hL hB I Lv K
  | 4 => zcs_4 H hd hi hL hB I Lv K
  | 5 => zcs_5 H hd hi hL hB I Lv K
  | 6 => zcs_6 H hd hi hL hB I Lv K
  | 7 => zcs_7 H hd hi hL hB I Lv K
  | 8 => zcs_8 H hd hi hL hB I Lv K
  | 9 => zcs_9 H hd hi hL hB I Lv K
  | 10 => zcs_10 H hd hi hL hB I Lv K
  | 11 => zcs_11 H hd hi hL hB I Lv K
  | 12 => zcs_12 H hd hi hL hB I Lv K
  | 13 => zcs_13 H hd hi hL hB I Lv K
  | 14 => zcs_14 H hd hi hL hB I Lv K
  | 15 => zcs_15 H hd hi hL hB I Lv K
  | 16 => zcs_16 H hd hi hL hB I Lv K
  | 17 => zcs_17 H hd hi hL hB I Lv K
  | 18 => zcs_18 H hd hi hL hB I Lv K
  | 19 => zcs_19 H hd hi hL hB I Lv K
  | 20 => zcs_20 H hd hi hL hB I Lv K
  | 21 => zcs_21 H hd hi hL hB I Lv K
  | 22 => zcs_22 H hd hi hL hB I Lv K
  | 23 => zcs_23 H hd hi hL hB I Lv K
  | 24 => zcs_24 H hd hi hL hB I Lv K
  | 25 => zcs_25 H hd hi hL hB I Lv K
  | 26 => zcs_26 H hd hi hL hB I Lv K
  | 27 => zcs_27 H hd hi hL hB I Lv K
  | 28 => zcs_28 H hd hi hL hB I Lv K
  | 29 => zcs_29 H hd hi hL hB I Lv K
  | 30 => zcs_30 H hd hi hL hB I Lv K
  | 31 => zcs_31 H hd hi hL hB I Lv K
  | 32 => zcs_32 H hd hi hL hB I Lv K
  | 33 => zcs_33 H hd hi hL hB I Lv K
  | 34 => zcs_34 H hd hi hL hB I Lv K
  | 35 => zcs_35 H hd hi hL hB I Lv K
  | 36 => zcs_36 H hd hi hL hB I Lv K
  | 37 => zcs_37 H hd hi hL hB I Lv K
  | 38 => zcs_38 H hd hi hL hB I Lv K
  | 39 => zcs_39 H hd hi hL hB I Lv K
  | 40 => zcs_40 H hd hi hL hB I Lv K
  | 41 => zcs_41 H hd hi hL hB I Lv K
  | 42 => zcs_42 H hd hi hL hB I Lv K
  | 43 => zcs_43 H hd hi hL hB I Lv K
  | 44 => zcs_44 H hd hi hL hB I Lv K
  | 45 => zcs_45 H hd hi hL hB I Lv K
  | 46 => zcs_46 H hd hi hL hB I Lv K
  | 47 => zcs_47 H hd hi hL hB I Lv K
  | n + 48 => z_ok.imp (K ty lo h N 0 0 I Lv (by omega) (by omega) (by omega)) (fun o h9 a b q => q)
theorem zcmp_gt {x y : Int32} : z_cmp 4 x y = true ↔ y.toInt < x.toInt := by
  show decide (y < x) = true ↔ _
  rw [decide_eq_true_eq, Int32.lt_iff_toInt_lt]
theorem zLv.next {lo : zL} {ax am ao i : Nat} {x : Int32} (L : zLv lo ax am ao i) (ex : x.toInt = ((i + 6 : Nat) : Int)) : zLv (z_set1 lo 4 (.int x)) ax am ao (i + 6) := by
  obtain ⟨g0, g1, g2, g3, -⟩ := L
  exact ⟨zget_set1_ne g0 (by omega) rfl, zget_set1_ne g1 (by omega) rfl, zget_set1_ne g2 (by omega) rfl, zget_set1_ne g3 (by omega) rfl, x, zget_self, ex⟩
set_option maxRecDepth 100000 in
theorem zLp_343 {sx : zX} {d ax am ao : Nat} (H : ∀ (c : Nat) (c' : zCt), zCtl[c]? = some c' → zVd z_tt zE1 c') (hd : 60 ≤ d) (hL : sx.1 ≤ 3072) : ∀ (r i : Nat) (ty : List Nat) (lo : zL) (h : zH) (N : Int), sx.1 ≤ i + 6 * r + 5 → i ≤ 4000 → h.length + 7 * r ≤ zB → zIw ty h ax am ao N → zLv lo ax am ao i → z_ok sx d 343 13 lo [] h (fun o _ x y => o = .inl (some (.int 1)) ∧ x ≤ 7 * r ∧ y ≤ 1000 * r)
  | r, i, ty, lo, h, N, hr, hi4, hB, I, Lv => by
    obtain ⟨g0, g1, g2, g3, x, g4, ex⟩ := Lv
    refine zh_ild zJ_343 (a := 4) (b := 0) (z := 0) rfl (k' := 14) rfl g4 ?_
    refine zh_ald zJ_343 (a := 0) (b := 0) (z := 0) rfl (k' := 15) rfl g0 ?_
    refine zh zJ_343 (i := (66, 0, 0, 0)) rfl rfl (k' := 16) (lo' := lo) (st' := [.int (Int32.ofNat sx.1), .int x]) (h' := h) (by
      show zo_slen sx d 0 0 0 15 lo [.ref zS, .int x] h = _
      unfold zo_slen
      exact if_pos rfl) ?_
    refine zh zJ_343 (i := (0, 0, 0, 6)) rfl rfl (k' := 17) (lo' := lo) (st' := [.int (Int32.ofInt (6)), .int (Int32.ofNat sx.1), .int x]) (h' := h) rfl ?_
    refine zh zJ_343 (i := (9, 0, 0, 0)) rfl rfl (k' := 18) (lo' := lo) (st' := [.int (Int32.ofNat sx.1 - Int32.ofInt (6)), .int x]) (h' := h) rfl ?_
    have eL : (Int32.ofNat sx.1).toInt = (sx.1 : Int) := Int32.toInt_ofNat_of_lt (by omega)
    have e6 : (Int32.ofNat sx.1 - Int32.ofInt (6)).toInt = (sx.1 : Int) - 6 := zI_sub eL (zI_c (by decide) (by decide)) (by omega) (by omega)
    refine zh_icmp zJ_343 (a := 938) (b := 4) (z := 0) rfl (fun hc => ?_) (fun hc => ?_)
    · refine zh zJ_343 (i := (0, 0, 0, 1)) rfl rfl (k' := 939) (lo' := lo) (st' := [.int (Int32.ofInt (1))]) (h' := h) rfl ?_
      refine zh_iret zJ_343 (a := 0) (b := 0) (z := 0) rfl (Or.inr ⟨rfl, Or.inr rfl⟩) ?_
      exact ⟨rfl, Nat.zero_le _, Nat.zero_le _⟩
    · have hle : (i : Int) ≤ (sx.1 : Int) - 6 := by
        have := mt zcmp_gt.mpr hc
        omega
      have hi6 : i + 6 ≤ sx.1 := by omega
      refine zh_ald zJ_343 (a := 0) (b := 0) (z := 0) rfl (k' := 20) rfl g0 ?_
      refine zh_ild zJ_343 (a := 4) (b := 0) (z := 0) rfl (k' := 21) rfl g4 ?_
      refine zh zJ_343 (i := (65, 0, 0, 0)) rfl rfl (k' := 22) (lo' := lo) (st' := [.int (sx.2 i)]) (h' := h) (by
        show zo_sald sx d 0 0 0 21 lo [.int x, .ref zS] h = _
        unfold zo_sald
        dsimp only
        rw [if_pos ⟨rfl, (z_inn (by omega) (by omega)).1⟩, znat ex]) ?_
      refine zh zJ_343 (i := (0, 0, 0, 63)) rfl rfl (k' := 23) (lo' := lo) (st' := [.int (Int32.ofInt (63)), .int (sx.2 i)]) (h' := h) rfl ?_
      refine zh zJ_343 (i := (16, 0, 0, 0)) rfl rfl (k' := 24) (lo' := lo) (st' := [.int (sx.2 i &&& Int32.ofInt (63))]) (h' := h) rfl ?_
      have hand := zand_ok (sx.2 i) (Int32.ofInt (63)) (by decide)
      generalize sx.2 i &&& Int32.ofInt (63) = c at hand ⊢
      refine zh zJ_343 (i := (35, 8, 0, 0)) rfl rfl (k' := (((([25, 82, 99, 107, 115, 122, 140, 168, 206, 234, 262, 290, 318, 336, 371, 389, 397, 404, 422, 429, 457, 464, 471, 478, 485, 502, 530, 548, 586, 612, 619, 626, 644, 651, 679, 697, 715, 733, 740, 747, 783, 819, 855, 883, 900, 907, 912, 919] : List Nat))[c.toInt.toNat]?).getD 936)) (lo' := lo) (st' := []) (h' := h) (by
        show zn (z_swt (0, _, 936) c) lo [] h = _
        unfold z_swt
        rw [if_neg (show ¬ c.toInt < 0 by omega), Int.sub_zero]) ?_
      obtain ⟨r, rfl⟩ : ∃ r', r = r' + 1 := ⟨r - 1, by omega⟩
      refine zsw_all H hd hi6 hL (by omega) I ⟨g0, g1, g2, g3, x, g4, ex⟩ (fun ty' lo' h' N' x1 y1 I' Lv' hx hy hl => ?_) c.toInt.toNat
      obtain ⟨k0, k1, k2, k3, u, k4, eu⟩ := Lv'
      refine zh_iinc zJ_343 (a := 4) (b := 0) (z := 6) rfl (k' := 937) rfl k4 ?_
      refine zgoto rfl ?_
      refine z_ok.imp (zLp_343 H hd hL r (i + 6) ty' _ h' N' (by omega) (by omega) (by omega) I' (zLv.next ⟨k0, k1, k2, k3, u, k4, eu⟩ (by rw [zI_add eu (zI_c (by decide) (by decide)) (by omega) (by omega)]; omega))) (fun o h9 a b q => ?_)
      exact ⟨q.1, by have := q.2.1; omega, by have := q.2.2; omega⟩
termination_by r => r
decreasing_by omega
end
