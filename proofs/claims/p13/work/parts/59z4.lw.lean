/-! the law's cases 36 to 47; printed with wip/gen/gen_law.py -/
set_option maxRecDepth 100000 in
theorem zcs_36 {sx : zX} {d : Nat} {ty : List Nat} {lo : zL} {h : zH} {Ψ : zO → zH → Nat → Nat → Prop} {ax am ao i : Nat} {N : Int} (H : ∀ (c : Nat) (c' : zCt), zCtl[c]? = some c' → zVd z_tt zE1 c') (hd : 60 ≤ d) (hi : i + 6 ≤ sx.1) (hL : sx.1 ≤ 3072) (hB : h.length + 6 ≤ zB) (I : zIw ty h ax am ao N) (Lv : zLv lo ax am ao i) (K : zKc sx d ax am ao i h Ψ) : z_ok sx d 343 715 lo [] h Ψ := by
  refine zh_ald zJ_343 (k' := 716) rfl rfl Lv.2.1 ?_
  refine zscr 716 717 718 719 720 721 1 rfl rfl rfl rfl rfl rfl rfl rfl rfl rfl rfl (by omega) Lv hi hL (fun v0 ev0 => ?_)
  refine zh_ald zJ_343 (k' := 722) rfl rfl Lv.2.2.2.1 ?_
  refine zlcq (ct := zC297) (as := [.ref ax, .int v0, .ref ao]) (i := (72, 338, 3, 0)) I.v rfl (k' := 723) rfl (by decide) (zcal72 (xs := [.ref ao, .int v0, .ref ax]) (rest := []) (by omega) rfl rfl (Nat.le_of_ble_eq_true rfl) (M' := z_m338) rfl (Nat.le_of_ble_eq_true rfl)) (H 297 _ rfl) rfl (by show 25 + 1 ≤ d; omega) rfl (by decide +kernel) (by decide +kernel) (by decide +kernel) ⟨⟨ax, 1, rfl, I.2.2.1, Int.le_refl _, Int.le_refl _⟩, zFull_ok _, ⟨ao, 33, rfl, I.2.2.2.2.1, Int.le_refl _, Int.le_refl _⟩, trivial⟩ sq_338 rfl (fun ty1 h1 w1 x1 y1 I1 V1 G1 cx1 cy1 l1 => ?_)
  have cx1 : x1 ≤ 1 := cx1
  have cy1 : y1 ≤ 6 := cy1
  match w1, V1, G1 with
  | some w1, V1, G1 =>
  obtain ⟨c1, rfl, -⟩ := V1
  have G1 : p_338 ax v0 ao (za h) c1 (za h1) := by
    obtain ⟨r9, er9, g9⟩ := G1
    have er9 : r9 = c1 := by cases er9; rfl
    rw [er9] at g9
    exact g9
  show z_ok sx d 343 723 lo [.int c1] h1 _
  refine zh_ist zJ_343 (a := 5) (b := 0) (z := 0) rfl (k' := 724) rfl ?_
  refine zh_ald zJ_343 (k' := 725) rfl rfl (Lv.set (b := 5) (v := c1) (by omega)).2.2.1 ?_
  refine zscr 725 726 727 728 729 730 1 rfl rfl rfl rfl rfl rfl rfl rfl rfl rfl rfl (by omega) (Lv.set (b := 5) (v := c1) (by omega)) hi hL (fun v1 ev1 => ?_)
  obtain ⟨fs1, he1, -⟩ := zcell0 (c := 9) (n := 23) I1.1 I1.2.2.2.1 rfl rfl rfl
  refine zlcq (ct := zC267) (as := [.ref am, .int v1]) (i := (54, 273, 1, 9)) I1 rfl (k' := 731) rfl (by decide) (zcal54 (xs := [.int v1]) (rest := []) (by omega) rfl rfl he1 rfl (Nat.le_of_ble_eq_true rfl) (M' := z_m273) rfl (Nat.le_of_ble_eq_true rfl)) (H 267 _ rfl) rfl (by show 26 + 1 ≤ d; omega) rfl (by decide +kernel) (by decide +kernel) (by decide +kernel) ⟨⟨am, 20, rfl, I1.2.2.2.1, Int.le_refl _, Int.le_refl _⟩, zFull_ok _, trivial⟩ sq_273 rfl (fun ty2 h2 w2 x2 y2 I2 V2 G2 cx2 cy2 l2 => ?_)
  have cx2 : x2 ≤ 0 := cx2
  have cy2 : y2 ≤ 0 := cy2
  match w2, V2, G2 with
  | some w2, V2, G2 =>
  obtain ⟨c2, rfl, -⟩ := V2
  have G2 : p_273 am v1 (za h1) c2 (za h2) := by
    obtain ⟨r9, er9, g9⟩ := G2
    have er9 : r9 = c2 := by cases er9; rfl
    rw [er9] at g9
    exact g9
  have ee0 : v1 = v0 := by rw [ev1, ev0]
  rw [ee0] at G2
  have Z2 : zHld (za h2) ∧ zLik (za h2) c1 c2 := by
    obtain ⟨⟨rfl, rfl, rfl⟩, -⟩ := I.lx
    obtain ⟨p0, w0, K0, R0⟩ := I.hd
    exact zq_36 w0 K0 R0 G1 G2
  have I2 := I2.w Z2.1
  have GE : ∃ t : Int32, zv h2 am 0 = .int t ∧ t.toInt = c1.toInt ∧ (c1.toInt = 0 → zv h2 ao 0 = .long c2.toInt64) := by
    obtain ⟨⟨rfl, rfl, rfl⟩, -⟩ := I.lx
    exact Z2.2
  have zx2 : x2 = 0 := by omega
  have zy2 : y2 = 0 := by omega
  subst zx2
  subst zy2
  show z_ok sx d 343 731 (z_set1 lo 5 (.int c1)) [.int c2] h2 _
  refine zh_ist zJ_343 (a := 6) (b := 0) (z := 0) rfl (k' := 732) rfl ?_
  refine zgoto rfl ?_
  exact K.use I2 ((Lv.set (b := 5) (v := c1) (by omega)).set (b := 6) (v := c2) (by omega)) (by omega) (by omega) (by omega)
set_option maxRecDepth 100000 in
theorem zcs_37 {sx : zX} {d : Nat} {ty : List Nat} {lo : zL} {h : zH} {Ψ : zO → zH → Nat → Nat → Prop} {ax am ao i : Nat} {N : Int} (H : ∀ (c : Nat) (c' : zCt), zCtl[c]? = some c' → zVd z_tt zE1 c') (hd : 60 ≤ d) (hi : i + 6 ≤ sx.1) (hL : sx.1 ≤ 3072) (hB : h.length + 6 ≤ zB) (I : zIw ty h ax am ao N) (Lv : zLv lo ax am ao i) (K : zKc sx d ax am ao i h Ψ) : z_ok sx d 343 733 lo [] h Ψ := by
  refine zh_ald zJ_343 (k' := 734) rfl rfl Lv.2.1 ?_
  obtain ⟨fs0, he0, -⟩ := zcell0 (c := 8) (n := 8) I.1 I.2.2.1 rfl rfl rfl
  refine zlcq (ct := zC162) (as := [.ref ax]) (i := (54, 155, 0, 8)) I.v rfl (k' := 735) rfl (by decide) (zcal54 (xs := []) (rest := []) (by omega) rfl rfl he0 rfl (Nat.le_of_ble_eq_true rfl) (M' := z_m155) rfl (Nat.le_of_ble_eq_true rfl)) (H 162 _ rfl) rfl (by show 2 + 1 ≤ d; omega) rfl (by decide +kernel) (by decide +kernel) (by decide +kernel) ⟨⟨ax, 1, rfl, I.2.2.1, Int.le_refl _, Int.le_refl _⟩, trivial⟩ sq_155 rfl (fun ty1 h1 w1 x1 y1 I1 V1 G1 cx1 cy1 l1 => ?_)
  have cx1 : x1 ≤ 0 := cx1
  have cy1 : y1 ≤ 0 := cy1
  match w1, V1, G1 with
  | some w1, V1, G1 =>
  obtain ⟨c1, rfl, -⟩ := V1
  have G1 : p_155 ax (za h) c1 (za h1) := by
    obtain ⟨r9, er9, g9⟩ := G1
    have er9 : r9 = c1 := by cases er9; rfl
    rw [er9] at g9
    exact g9
  show z_ok sx d 343 735 lo [.int c1] h1 _
  refine zpop rfl (k' := 736) rfl ?_
  refine zh_ald zJ_343 (k' := 737) rfl rfl Lv.2.2.1 ?_
  obtain ⟨fs1, he1, -⟩ := zcell0 (c := 9) (n := 23) I1.1 I1.2.2.2.1 rfl rfl rfl
  refine zlcq (ct := zC218) (as := [.ref am]) (i := (54, 301, 0, 9)) I1 rfl (k' := 738) rfl (by decide) (zcal54 (xs := []) (rest := []) (by omega) rfl rfl he1 rfl (Nat.le_of_ble_eq_true rfl) (M' := z_m301) rfl (Nat.le_of_ble_eq_true rfl)) (H 218 _ rfl) rfl (by show 6 + 1 ≤ d; omega) rfl (by decide +kernel) (by decide +kernel) (by decide +kernel) ⟨⟨am, 20, rfl, I1.2.2.2.1, Int.le_refl _, Int.le_refl _⟩, trivial⟩ sq_301 rfl (fun ty2 h2 w2 x2 y2 I2 V2 G2 cx2 cy2 l2 => ?_)
  have cx2 : x2 ≤ 0 := cx2
  have cy2 : y2 ≤ 0 := cy2
  match w2, V2, G2 with
  | some w2, V2, G2 =>
  obtain ⟨c2, rfl, -⟩ := V2
  have G2 : p_301 am (za h1) c2 (za h2) := by
    obtain ⟨r9, er9, g9⟩ := G2
    have er9 : r9 = c2 := by cases er9; rfl
    rw [er9] at g9
    exact g9
  have Z2 : zHld (za h2) ∧ c1 = c2 := by
    obtain ⟨⟨rfl, rfl, rfl⟩, -⟩ := I.lx
    obtain ⟨p0, w0, K0, R0⟩ := I.hd
    exact zq_37 w0 K0 R0 G1 G2
  have I2 := I2.w Z2.1
  have ec : c1.toInt = c2.toInt := congrArg Int32.toInt Z2.2
  show z_ok sx d 343 738 lo [.int c2] h2 _
  refine zpop rfl (k' := 739) rfl ?_
  refine zgoto rfl ?_
  exact K.use I2 Lv (by omega) (by omega) (by omega)
set_option maxRecDepth 100000 in
theorem zcs_38 {sx : zX} {d : Nat} {ty : List Nat} {lo : zL} {h : zH} {Ψ : zO → zH → Nat → Nat → Prop} {ax am ao i : Nat} {N : Int} (H : ∀ (c : Nat) (c' : zCt), zCtl[c]? = some c' → zVd z_tt zE1 c') (hd : 60 ≤ d) (hi : i + 6 ≤ sx.1) (hL : sx.1 ≤ 3072) (hB : h.length + 6 ≤ zB) (I : zIw ty h ax am ao N) (Lv : zLv lo ax am ao i) (K : zKc sx d ax am ao i h Ψ) : z_ok sx d 343 740 lo [] h Ψ := by
  refine zh_ald zJ_343 (k' := 741) rfl rfl Lv.2.1 ?_
  obtain ⟨fs0, he0, -⟩ := zcell0 (c := 8) (n := 8) I.1 I.2.2.1 rfl rfl rfl
  refine zlcq (ct := zC163) (as := [.ref ax]) (i := (54, 156, 0, 8)) I.v rfl (k' := 742) rfl (by decide) (zcal54 (xs := []) (rest := []) (by omega) rfl rfl he0 rfl (Nat.le_of_ble_eq_true rfl) (M' := z_m156) rfl (Nat.le_of_ble_eq_true rfl)) (H 163 _ rfl) rfl (by show 3 + 1 ≤ d; omega) rfl (by decide +kernel) (by decide +kernel) (by decide +kernel) ⟨⟨ax, 1, rfl, I.2.2.1, Int.le_refl _, Int.le_refl _⟩, trivial⟩ sq_156 rfl (fun ty1 h1 w1 x1 y1 I1 V1 G1 cx1 cy1 l1 => ?_)
  have cx1 : x1 ≤ 0 := cx1
  have cy1 : y1 ≤ 0 := cy1
  match w1, V1, G1 with
  | some w1, V1, G1 =>
  obtain ⟨c1, rfl, -⟩ := V1
  have G1 : p_156 ax (za h) c1 (za h1) := by
    obtain ⟨r9, er9, g9⟩ := G1
    have er9 : r9 = c1 := by cases er9; rfl
    rw [er9] at g9
    exact g9
  show z_ok sx d 343 742 lo [.int c1] h1 _
  refine zpop rfl (k' := 743) rfl ?_
  refine zh_ald zJ_343 (k' := 744) rfl rfl Lv.2.2.1 ?_
  obtain ⟨fs1, he1, -⟩ := zcell0 (c := 9) (n := 23) I1.1 I1.2.2.2.1 rfl rfl rfl
  refine zlcq (ct := zC219) (as := [.ref am]) (i := (54, 302, 0, 9)) I1 rfl (k' := 745) rfl (by decide) (zcal54 (xs := []) (rest := []) (by omega) rfl rfl he1 rfl (Nat.le_of_ble_eq_true rfl) (M' := z_m302) rfl (Nat.le_of_ble_eq_true rfl)) (H 219 _ rfl) rfl (by show 3 + 1 ≤ d; omega) rfl (by decide +kernel) (by decide +kernel) (by decide +kernel) ⟨⟨am, 20, rfl, I1.2.2.2.1, Int.le_refl _, Int.le_refl _⟩, trivial⟩ sq_302 rfl (fun ty2 h2 w2 x2 y2 I2 V2 G2 cx2 cy2 l2 => ?_)
  have cx2 : x2 ≤ 0 := cx2
  have cy2 : y2 ≤ 0 := cy2
  match w2, V2, G2 with
  | some w2, V2, G2 =>
  obtain ⟨c2, rfl, -⟩ := V2
  have G2 : p_302 am (za h1) c2 (za h2) := by
    obtain ⟨r9, er9, g9⟩ := G2
    have er9 : r9 = c2 := by cases er9; rfl
    rw [er9] at g9
    exact g9
  have Z2 : zHld (za h2) ∧ c1 = c2 := by
    obtain ⟨⟨rfl, rfl, rfl⟩, -⟩ := I.lx
    obtain ⟨p0, w0, K0, R0⟩ := I.hd
    exact zq_38 w0 K0 R0 G1 G2
  have I2 := I2.w Z2.1
  have ec : c1.toInt = c2.toInt := congrArg Int32.toInt Z2.2
  show z_ok sx d 343 745 lo [.int c2] h2 _
  refine zpop rfl (k' := 746) rfl ?_
  refine zgoto rfl ?_
  exact K.use I2 Lv (by omega) (by omega) (by omega)
set_option maxRecDepth 100000 in
theorem zcs_39 {sx : zX} {d : Nat} {ty : List Nat} {lo : zL} {h : zH} {Ψ : zO → zH → Nat → Nat → Prop} {ax am ao i : Nat} {N : Int} (H : ∀ (c : Nat) (c' : zCt), zCtl[c]? = some c' → zVd z_tt zE1 c') (hd : 60 ≤ d) (hi : i + 6 ≤ sx.1) (hL : sx.1 ≤ 3072) (hB : h.length + 6 ≤ zB) (I : zIw ty h ax am ao N) (Lv : zLv lo ax am ao i) (K : zKc sx d ax am ao i h Ψ) : z_ok sx d 343 747 lo [] h Ψ := by
  refine zh_ald zJ_343 (k' := 748) rfl rfl Lv.2.1 ?_
  refine zscr 748 749 750 751 752 753 1 rfl rfl rfl rfl rfl rfl rfl rfl rfl rfl rfl (by omega) Lv hi hL (fun v0 ev0 => ?_)
  refine zscr 753 754 755 756 757 758 2 rfl rfl rfl rfl rfl rfl rfl rfl rfl rfl rfl (by omega) Lv hi hL (fun v1 ev1 => ?_)
  refine zboo 758 759 760 761 762 rfl rfl rfl rfl rfl rfl rfl (fun v2 hv2 ev2 => ?_)
  refine zh_ald zJ_343 (k' := 763) rfl rfl Lv.2.2.2.1 ?_
  refine zlcq (ct := zC298) (as := [.ref ax, .int v0, .int v2, .ref ao]) (i := (72, 339, 4, 0)) I.v rfl (k' := 764) rfl (by decide) (zcal72 (xs := [.ref ao, .int v2, .int v0, .ref ax]) (rest := []) (by omega) rfl rfl (Nat.le_of_ble_eq_true rfl) (M' := z_m339) rfl (Nat.le_of_ble_eq_true rfl)) (H 298 _ rfl) rfl (by show 25 + 1 ≤ d; omega) rfl (by decide +kernel) (by decide +kernel) (by decide +kernel) ⟨⟨ax, 1, rfl, I.2.2.1, Int.le_refl _, Int.le_refl _⟩, zFull_ok _, ⟨_, rfl, hv2.1, hv2.2⟩, ⟨ao, 33, rfl, I.2.2.2.2.1, Int.le_refl _, Int.le_refl _⟩, trivial⟩ sq_339 rfl (fun ty1 h1 w1 x1 y1 I1 V1 G1 cx1 cy1 l1 => ?_)
  have cx1 : x1 ≤ 1 := cx1
  have cy1 : y1 ≤ 6 := cy1
  match w1, V1, G1 with
  | some w1, V1, G1 =>
  obtain ⟨c1, rfl, -⟩ := V1
  have G1 : p_339 ax v0 v2 ao (za h) c1 (za h1) := by
    obtain ⟨r9, er9, g9⟩ := G1
    have er9 : r9 = c1 := by cases er9; rfl
    rw [er9] at g9
    exact g9
  show z_ok sx d 343 764 lo [.int c1] h1 _
  refine zh_ist zJ_343 (a := 5) (b := 0) (z := 0) rfl (k' := 765) rfl ?_
  refine zh_ald zJ_343 (k' := 766) rfl rfl (Lv.set (b := 5) (v := c1) (by omega)).2.2.1 ?_
  refine zscr 766 767 768 769 770 771 1 rfl rfl rfl rfl rfl rfl rfl rfl rfl rfl rfl (by omega) (Lv.set (b := 5) (v := c1) (by omega)) hi hL (fun v3 ev3 => ?_)
  refine zscr 771 772 773 774 775 776 2 rfl rfl rfl rfl rfl rfl rfl rfl rfl rfl rfl (by omega) (Lv.set (b := 5) (v := c1) (by omega)) hi hL (fun v4 ev4 => ?_)
  refine zboo 776 777 778 779 780 rfl rfl rfl rfl rfl rfl rfl (fun v5 hv5 ev5 => ?_)
  obtain ⟨fs1, he1, -⟩ := zcell0 (c := 9) (n := 23) I1.1 I1.2.2.2.1 rfl rfl rfl
  refine zlcq (ct := zC269) (as := [.ref am, .int v3, .int v5]) (i := (54, 304, 2, 9)) I1 rfl (k' := 781) rfl (by decide) (zcal54 (xs := [.int v5, .int v3]) (rest := []) (by omega) rfl rfl he1 rfl (Nat.le_of_ble_eq_true rfl) (M' := z_m304) rfl (Nat.le_of_ble_eq_true rfl)) (H 269 _ rfl) rfl (by show 27 + 1 ≤ d; omega) rfl (by decide +kernel) (by decide +kernel) (by decide +kernel) ⟨⟨am, 20, rfl, I1.2.2.2.1, Int.le_refl _, Int.le_refl _⟩, zFull_ok _, ⟨_, rfl, hv5.1, hv5.2⟩, trivial⟩ sq_304 rfl (fun ty2 h2 w2 x2 y2 I2 V2 G2 cx2 cy2 l2 => ?_)
  have cx2 : x2 ≤ 0 := cx2
  have cy2 : y2 ≤ 0 := cy2
  match w2, V2, G2 with
  | some w2, V2, G2 =>
  obtain ⟨c2, rfl, -⟩ := V2
  have G2 : p_304 am v3 v5 (za h1) c2 (za h2) := by
    obtain ⟨r9, er9, g9⟩ := G2
    have er9 : r9 = c2 := by cases er9; rfl
    rw [er9] at g9
    exact g9
  have ee0 : v3 = v0 := by rw [ev3, ev0]
  have ee1 : v5 = v2 := by rw [ev5, ev4, ev2, ev1]
  rw [ee0, ee1] at G2
  have Z2 : zHld (za h2) := by
    obtain ⟨⟨rfl, rfl, rfl⟩, -⟩ := I.lx
    obtain ⟨p0, w0, K0, R0⟩ := I.hd
    exact zq_39 w0 K0 R0 G1 G2
  have I2 := I2.w Z2
  show z_ok sx d 343 781 (z_set1 lo 5 (.int c1)) [.int c2] h2 _
  refine zh_ist zJ_343 (a := 6) (b := 0) (z := 0) rfl (k' := 782) rfl ?_
  refine zgoto rfl ?_
  exact K.use I2 ((Lv.set (b := 5) (v := c1) (by omega)).set (b := 6) (v := c2) (by omega)) (by omega) (by omega) (by omega)
set_option maxRecDepth 100000 in
theorem zcs_40 {sx : zX} {d : Nat} {ty : List Nat} {lo : zL} {h : zH} {Ψ : zO → zH → Nat → Nat → Prop} {ax am ao i : Nat} {N : Int} (H : ∀ (c : Nat) (c' : zCt), zCtl[c]? = some c' → zVd z_tt zE1 c') (hd : 60 ≤ d) (hi : i + 6 ≤ sx.1) (hL : sx.1 ≤ 3072) (hB : h.length + 6 ≤ zB) (I : zIw ty h ax am ao N) (Lv : zLv lo ax am ao i) (K : zKc sx d ax am ao i h Ψ) : z_ok sx d 343 783 lo [] h Ψ := by
  refine zh_ald zJ_343 (k' := 784) rfl rfl Lv.2.1 ?_
  refine zscr 784 785 786 787 788 789 1 rfl rfl rfl rfl rfl rfl rfl rfl rfl rfl rfl (by omega) Lv hi hL (fun v0 ev0 => ?_)
  refine zscr 789 790 791 792 793 794 2 rfl rfl rfl rfl rfl rfl rfl rfl rfl rfl rfl (by omega) Lv hi hL (fun v1 ev1 => ?_)
  refine zboo 794 795 796 797 798 rfl rfl rfl rfl rfl rfl rfl (fun v2 hv2 ev2 => ?_)
  refine zh_ald zJ_343 (k' := 799) rfl rfl Lv.2.2.2.1 ?_
  refine zlcon (ct := zC299) (as := [.ref ax, .int v0, .int v2, .ref ao]) (i := (72, 340, 4, 0)) I rfl (k' := 800) rfl (by decide) (zcal72 (xs := [.ref ao, .int v2, .int v0, .ref ax]) (rest := []) (by omega) rfl rfl (Nat.le_of_ble_eq_true rfl) (M' := z_m340) rfl (Nat.le_of_ble_eq_true rfl)) (H 299 _ rfl) rfl (by show 8 + 1 ≤ d; omega) rfl (by decide +kernel) (by decide +kernel) (by decide +kernel) (by decide +kernel) ⟨⟨ax, 1, rfl, I.2.2.1, Int.le_refl _, Int.le_refl _⟩, zFull_ok _, ⟨_, rfl, hv2.1, hv2.2⟩, ⟨ao, 33, rfl, I.2.2.2.2.1, Int.le_refl _, Int.le_refl _⟩, trivial⟩ (fun ty1 h1 w1 x1 y1 I1 V1 cx1 cy1 l1 => ?_)
  have cx1 : x1 ≤ 1 := cx1
  have cy1 : y1 ≤ 6 := cy1
  match w1, V1 with
  | some w1, V1 =>
  obtain ⟨c1, rfl, -⟩ := V1
  show z_ok sx d 343 800 lo [.int c1] h1 _
  refine zh_ist zJ_343 (a := 5) (b := 0) (z := 0) rfl (k' := 801) rfl ?_
  refine zh_ald zJ_343 (k' := 802) rfl rfl (Lv.set (b := 5) (v := c1) (by omega)).2.2.1 ?_
  refine zscr 802 803 804 805 806 807 1 rfl rfl rfl rfl rfl rfl rfl rfl rfl rfl rfl (by omega) (Lv.set (b := 5) (v := c1) (by omega)) hi hL (fun v3 ev3 => ?_)
  refine zscr 807 808 809 810 811 812 2 rfl rfl rfl rfl rfl rfl rfl rfl rfl rfl rfl (by omega) (Lv.set (b := 5) (v := c1) (by omega)) hi hL (fun v4 ev4 => ?_)
  refine zboo 812 813 814 815 816 rfl rfl rfl rfl rfl rfl rfl (fun v5 hv5 ev5 => ?_)
  obtain ⟨fs1, he1, -⟩ := zcell0 (c := 9) (n := 23) I1.1 I1.2.2.2.1 rfl rfl rfl
  refine zlcq (ct := zC270) (as := [.ref am, .int v3, .int v5]) (i := (54, 305, 2, 9)) I1.v rfl (k' := 817) rfl (by decide) (zcal54 (xs := [.int v5, .int v3]) (rest := []) (by omega) rfl rfl he1 rfl (Nat.le_of_ble_eq_true rfl) (M' := z_m305) rfl (Nat.le_of_ble_eq_true rfl)) (H 270 _ rfl) rfl (by show 27 + 1 ≤ d; omega) rfl (by decide +kernel) (by decide +kernel) (by decide +kernel) ⟨⟨am, 20, rfl, I1.2.2.2.1, Int.le_refl _, Int.le_refl _⟩, zFull_ok _, ⟨_, rfl, hv5.1, hv5.2⟩, trivial⟩ sq_305 rfl (fun ty2 h2 w2 x2 y2 I2 V2 G2 cx2 cy2 l2 => ?_)
  have cx2 : x2 ≤ 0 := cx2
  have cy2 : y2 ≤ 0 := cy2
  match w2, V2, G2 with
  | some w2, V2, G2 =>
  obtain ⟨c2, rfl, -⟩ := V2
  have G2 : p_305 am v3 v5 (za h1) c2 (za h2) := by
    obtain ⟨r9, er9, g9⟩ := G2
    have er9 : r9 = c2 := by cases er9; rfl
    rw [er9] at g9
    exact g9
  have Z2 : zHld (za h2) := by
    obtain ⟨⟨rfl, rfl, rfl⟩, -⟩ := I1.lx
    obtain ⟨p0, w0, K0, R0⟩ := I1.hd
    exact zq_40 (σ1 := za h1) w0 K0 R0 G2
  have I2 := I2.w Z2
  show z_ok sx d 343 817 (z_set1 lo 5 (.int c1)) [.int c2] h2 _
  refine zh_ist zJ_343 (a := 6) (b := 0) (z := 0) rfl (k' := 818) rfl ?_
  refine zgoto rfl ?_
  exact K.use I2 ((Lv.set (b := 5) (v := c1) (by omega)).set (b := 6) (v := c2) (by omega)) (by omega) (by omega) (by omega)
set_option maxRecDepth 100000 in
theorem zcs_41 {sx : zX} {d : Nat} {ty : List Nat} {lo : zL} {h : zH} {Ψ : zO → zH → Nat → Nat → Prop} {ax am ao i : Nat} {N : Int} (H : ∀ (c : Nat) (c' : zCt), zCtl[c]? = some c' → zVd z_tt zE1 c') (hd : 60 ≤ d) (hi : i + 6 ≤ sx.1) (hL : sx.1 ≤ 3072) (hB : h.length + 6 ≤ zB) (I : zIw ty h ax am ao N) (Lv : zLv lo ax am ao i) (K : zKc sx d ax am ao i h Ψ) : z_ok sx d 343 819 lo [] h Ψ := by
  refine zh_ald zJ_343 (k' := 820) rfl rfl Lv.2.1 ?_
  refine zscr 820 821 822 823 824 825 1 rfl rfl rfl rfl rfl rfl rfl rfl rfl rfl rfl (by omega) Lv hi hL (fun v0 ev0 => ?_)
  refine zscr 825 826 827 828 829 830 2 rfl rfl rfl rfl rfl rfl rfl rfl rfl rfl rfl (by omega) Lv hi hL (fun v1 ev1 => ?_)
  refine zboo 830 831 832 833 834 rfl rfl rfl rfl rfl rfl rfl (fun v2 hv2 ev2 => ?_)
  refine zh_ald zJ_343 (k' := 835) rfl rfl Lv.2.2.2.1 ?_
  refine zlcon (ct := zC300) (as := [.ref ax, .int v0, .int v2, .ref ao]) (i := (72, 341, 4, 0)) I rfl (k' := 836) rfl (by decide) (zcal72 (xs := [.ref ao, .int v2, .int v0, .ref ax]) (rest := []) (by omega) rfl rfl (Nat.le_of_ble_eq_true rfl) (M' := z_m341) rfl (Nat.le_of_ble_eq_true rfl)) (H 300 _ rfl) rfl (by show 8 + 1 ≤ d; omega) rfl (by decide +kernel) (by decide +kernel) (by decide +kernel) (by decide +kernel) ⟨⟨ax, 1, rfl, I.2.2.1, Int.le_refl _, Int.le_refl _⟩, zFull_ok _, ⟨_, rfl, hv2.1, hv2.2⟩, ⟨ao, 33, rfl, I.2.2.2.2.1, Int.le_refl _, Int.le_refl _⟩, trivial⟩ (fun ty1 h1 w1 x1 y1 I1 V1 cx1 cy1 l1 => ?_)
  have cx1 : x1 ≤ 1 := cx1
  have cy1 : y1 ≤ 6 := cy1
  match w1, V1 with
  | some w1, V1 =>
  obtain ⟨c1, rfl, -⟩ := V1
  show z_ok sx d 343 836 lo [.int c1] h1 _
  refine zh_ist zJ_343 (a := 5) (b := 0) (z := 0) rfl (k' := 837) rfl ?_
  refine zh_ald zJ_343 (k' := 838) rfl rfl (Lv.set (b := 5) (v := c1) (by omega)).2.2.1 ?_
  refine zscr 838 839 840 841 842 843 1 rfl rfl rfl rfl rfl rfl rfl rfl rfl rfl rfl (by omega) (Lv.set (b := 5) (v := c1) (by omega)) hi hL (fun v3 ev3 => ?_)
  refine zscr 843 844 845 846 847 848 2 rfl rfl rfl rfl rfl rfl rfl rfl rfl rfl rfl (by omega) (Lv.set (b := 5) (v := c1) (by omega)) hi hL (fun v4 ev4 => ?_)
  refine zboo 848 849 850 851 852 rfl rfl rfl rfl rfl rfl rfl (fun v5 hv5 ev5 => ?_)
  obtain ⟨fs1, he1, -⟩ := zcell0 (c := 9) (n := 23) I1.1 I1.2.2.2.1 rfl rfl rfl
  refine zlcon (ct := zC221) (as := [.ref am, .int v3, .int v5]) (i := (54, 307, 2, 9)) I1 rfl (k' := 853) rfl (by decide) (zcal54 (xs := [.int v5, .int v3]) (rest := []) (by omega) rfl rfl he1 rfl (Nat.le_of_ble_eq_true rfl) (M' := z_m307) rfl (Nat.le_of_ble_eq_true rfl)) (H 221 _ rfl) rfl (by show 2 + 1 ≤ d; omega) rfl (by decide +kernel) (by decide +kernel) (by decide +kernel) (by decide +kernel) ⟨⟨am, 20, rfl, I1.2.2.2.1, Int.le_refl _, Int.le_refl _⟩, zFull_ok _, ⟨_, rfl, hv5.1, hv5.2⟩, trivial⟩ (fun ty2 h2 w2 x2 y2 I2 V2 cx2 cy2 l2 => ?_)
  have cx2 : x2 ≤ 0 := cx2
  have cy2 : y2 ≤ 0 := cy2
  match w2, V2 with
  | some w2, V2 =>
  obtain ⟨c2, rfl, -⟩ := V2
  show z_ok sx d 343 853 (z_set1 lo 5 (.int c1)) [.int c2] h2 _
  refine zh_ist zJ_343 (a := 6) (b := 0) (z := 0) rfl (k' := 854) rfl ?_
  refine zgoto rfl ?_
  exact K.use I2 ((Lv.set (b := 5) (v := c1) (by omega)).set (b := 6) (v := c2) (by omega)) (by omega) (by omega) (by omega)
set_option maxRecDepth 100000 in
theorem zcs_42 {sx : zX} {d : Nat} {ty : List Nat} {lo : zL} {h : zH} {Ψ : zO → zH → Nat → Nat → Prop} {ax am ao i : Nat} {N : Int} (H : ∀ (c : Nat) (c' : zCt), zCtl[c]? = some c' → zVd z_tt zE1 c') (hd : 60 ≤ d) (hi : i + 6 ≤ sx.1) (hL : sx.1 ≤ 3072) (hB : h.length + 6 ≤ zB) (I : zIw ty h ax am ao N) (Lv : zLv lo ax am ao i) (K : zKc sx d ax am ao i h Ψ) : z_ok sx d 343 855 lo [] h Ψ := by
  refine zh_ald zJ_343 (k' := 856) rfl rfl Lv.2.1 ?_
  refine zscr 856 857 858 859 860 861 1 rfl rfl rfl rfl rfl rfl rfl rfl rfl rfl rfl (by omega) Lv hi hL (fun v0 ev0 => ?_)
  refine zscr 861 862 863 864 865 866 2 rfl rfl rfl rfl rfl rfl rfl rfl rfl rfl rfl (by omega) Lv hi hL (fun v1 ev1 => ?_)
  refine zh_ald zJ_343 (k' := 867) rfl rfl Lv.2.2.2.1 ?_
  refine zlcon (ct := zC301) (as := [.ref ax, .int v0, .int v1, .ref ao]) (i := (72, 342, 4, 0)) I rfl (k' := 868) rfl (by decide) (zcal72 (xs := [.ref ao, .int v1, .int v0, .ref ax]) (rest := []) (by omega) rfl rfl (Nat.le_of_ble_eq_true rfl) (M' := z_m342) rfl (Nat.le_of_ble_eq_true rfl)) (H 301 _ rfl) rfl (by show 8 + 1 ≤ d; omega) rfl (by decide +kernel) (by decide +kernel) (by decide +kernel) (by decide +kernel) ⟨⟨ax, 1, rfl, I.2.2.1, Int.le_refl _, Int.le_refl _⟩, zFull_ok _, zFull_ok _, ⟨ao, 33, rfl, I.2.2.2.2.1, Int.le_refl _, Int.le_refl _⟩, trivial⟩ (fun ty1 h1 w1 x1 y1 I1 V1 cx1 cy1 l1 => ?_)
  have cx1 : x1 ≤ 1 := cx1
  have cy1 : y1 ≤ 6 := cy1
  match w1, V1 with
  | some w1, V1 =>
  obtain ⟨c1, rfl, -⟩ := V1
  show z_ok sx d 343 868 lo [.int c1] h1 _
  refine zh_ist zJ_343 (a := 5) (b := 0) (z := 0) rfl (k' := 869) rfl ?_
  refine zh_ald zJ_343 (k' := 870) rfl rfl (Lv.set (b := 5) (v := c1) (by omega)).2.2.1 ?_
  refine zscr 870 871 872 873 874 875 1 rfl rfl rfl rfl rfl rfl rfl rfl rfl rfl rfl (by omega) (Lv.set (b := 5) (v := c1) (by omega)) hi hL (fun v2 ev2 => ?_)
  refine zscr 875 876 877 878 879 880 2 rfl rfl rfl rfl rfl rfl rfl rfl rfl rfl rfl (by omega) (Lv.set (b := 5) (v := c1) (by omega)) hi hL (fun v3 ev3 => ?_)
  obtain ⟨fs1, he1, -⟩ := zcell0 (c := 9) (n := 23) I1.1 I1.2.2.2.1 rfl rfl rfl
  refine zlcon (ct := zC222) (as := [.ref am, .int v2, .int v3]) (i := (54, 308, 2, 9)) I1 rfl (k' := 881) rfl (by decide) (zcal54 (xs := [.int v3, .int v2]) (rest := []) (by omega) rfl rfl he1 rfl (Nat.le_of_ble_eq_true rfl) (M' := z_m308) rfl (Nat.le_of_ble_eq_true rfl)) (H 222 _ rfl) rfl (by show 1 + 1 ≤ d; omega) rfl (by decide +kernel) (by decide +kernel) (by decide +kernel) (by decide +kernel) ⟨⟨am, 20, rfl, I1.2.2.2.1, Int.le_refl _, Int.le_refl _⟩, zFull_ok _, zFull_ok _, trivial⟩ (fun ty2 h2 w2 x2 y2 I2 V2 cx2 cy2 l2 => ?_)
  have cx2 : x2 ≤ 0 := cx2
  have cy2 : y2 ≤ 0 := cy2
  match w2, V2 with
  | some w2, V2 =>
  obtain ⟨c2, rfl, -⟩ := V2
  show z_ok sx d 343 881 (z_set1 lo 5 (.int c1)) [.int c2] h2 _
  refine zh_ist zJ_343 (a := 6) (b := 0) (z := 0) rfl (k' := 882) rfl ?_
  refine zgoto rfl ?_
  exact K.use I2 ((Lv.set (b := 5) (v := c1) (by omega)).set (b := 6) (v := c2) (by omega)) (by omega) (by omega) (by omega)
set_option maxRecDepth 100000 in
theorem zcs_43 {sx : zX} {d : Nat} {ty : List Nat} {lo : zL} {h : zH} {Ψ : zO → zH → Nat → Nat → Prop} {ax am ao i : Nat} {N : Int} (H : ∀ (c : Nat) (c' : zCt), zCtl[c]? = some c' → zVd z_tt zE1 c') (hd : 60 ≤ d) (hi : i + 6 ≤ sx.1) (hL : sx.1 ≤ 3072) (hB : h.length + 6 ≤ zB) (I : zIw ty h ax am ao N) (Lv : zLv lo ax am ao i) (K : zKc sx d ax am ao i h Ψ) : z_ok sx d 343 883 lo [] h Ψ := by
  refine zh_ald zJ_343 (k' := 884) rfl rfl Lv.2.1 ?_
  refine zscr 884 885 886 887 888 889 1 rfl rfl rfl rfl rfl rfl rfl rfl rfl rfl rfl (by omega) Lv hi hL (fun v0 ev0 => ?_)
  obtain ⟨fs0, he0, -⟩ := zcell0 (c := 8) (n := 8) I.1 I.2.2.1 rfl rfl rfl
  refine zlcq (ct := zC171) (as := [.ref ax, .int v0]) (i := (54, 161, 1, 8)) I.v rfl (k' := 890) rfl (by decide) (zcal54 (xs := [.int v0]) (rest := []) (by omega) rfl rfl he0 rfl (Nat.le_of_ble_eq_true rfl) (M' := z_m161) rfl (Nat.le_of_ble_eq_true rfl)) (H 171 _ rfl) rfl (by show 0 + 1 ≤ d; omega) rfl (by decide +kernel) (by decide +kernel) (by decide +kernel) ⟨⟨ax, 1, rfl, I.2.2.1, Int.le_refl _, Int.le_refl _⟩, zFull_ok _, trivial⟩ sq_161 rfl (fun ty1 h1 w1 x1 y1 I1 V1 G1 cx1 cy1 l1 => ?_)
  have cx1 : x1 ≤ 0 := cx1
  have cy1 : y1 ≤ 0 := cy1
  match w1, V1, G1 with
  | some w1, V1, G1 =>
  obtain ⟨c1, rfl, -⟩ := V1
  have G1 : p_161 ax v0 (za h) c1 (za h1) := by
    obtain ⟨r9, er9, g9⟩ := G1
    have er9 : r9 = c1 := by cases er9; rfl
    rw [er9] at g9
    exact g9
  show z_ok sx d 343 890 lo [.int c1] h1 _
  refine zpop rfl (k' := 891) rfl ?_
  refine zh_ald zJ_343 (k' := 892) rfl rfl Lv.2.2.1 ?_
  refine zscr 892 893 894 895 896 897 1 rfl rfl rfl rfl rfl rfl rfl rfl rfl rfl rfl (by omega) Lv hi hL (fun v1 ev1 => ?_)
  obtain ⟨fs1, he1, -⟩ := zcell0 (c := 9) (n := 23) I1.1 I1.2.2.2.1 rfl rfl rfl
  refine zlcq (ct := zC223) (as := [.ref am, .int v1]) (i := (54, 309, 1, 9)) I1 rfl (k' := 898) rfl (by decide) (zcal54 (xs := [.int v1]) (rest := []) (by omega) rfl rfl he1 rfl (Nat.le_of_ble_eq_true rfl) (M' := z_m309) rfl (Nat.le_of_ble_eq_true rfl)) (H 223 _ rfl) rfl (by show 0 + 1 ≤ d; omega) rfl (by decide +kernel) (by decide +kernel) (by decide +kernel) ⟨⟨am, 20, rfl, I1.2.2.2.1, Int.le_refl _, Int.le_refl _⟩, zFull_ok _, trivial⟩ sq_309 rfl (fun ty2 h2 w2 x2 y2 I2 V2 G2 cx2 cy2 l2 => ?_)
  have cx2 : x2 ≤ 0 := cx2
  have cy2 : y2 ≤ 0 := cy2
  match w2, V2, G2 with
  | some w2, V2, G2 =>
  obtain ⟨c2, rfl, -⟩ := V2
  have G2 : p_309 am v1 (za h1) c2 (za h2) := by
    obtain ⟨r9, er9, g9⟩ := G2
    have er9 : r9 = c2 := by cases er9; rfl
    rw [er9] at g9
    exact g9
  have ee0 : v1 = v0 := by rw [ev1, ev0]
  rw [ee0] at G2
  have Z2 : zHld (za h2) ∧ c1 = c2 := by
    obtain ⟨⟨rfl, rfl, rfl⟩, -⟩ := I.lx
    obtain ⟨p0, w0, K0, R0⟩ := I.hd
    exact zq_43 w0 K0 R0 G1 G2
  have I2 := I2.w Z2.1
  have ec : c1.toInt = c2.toInt := congrArg Int32.toInt Z2.2
  show z_ok sx d 343 898 lo [.int c2] h2 _
  refine zpop rfl (k' := 899) rfl ?_
  refine zgoto rfl ?_
  exact K.use I2 Lv (by omega) (by omega) (by omega)
set_option maxRecDepth 100000 in
theorem zcs_44 {sx : zX} {d : Nat} {ty : List Nat} {lo : zL} {h : zH} {Ψ : zO → zH → Nat → Nat → Prop} {ax am ao i : Nat} {N : Int} (H : ∀ (c : Nat) (c' : zCt), zCtl[c]? = some c' → zVd z_tt zE1 c') (hd : 60 ≤ d) (hi : i + 6 ≤ sx.1) (hL : sx.1 ≤ 3072) (hB : h.length + 6 ≤ zB) (I : zIw ty h ax am ao N) (Lv : zLv lo ax am ao i) (K : zKc sx d ax am ao i h Ψ) : z_ok sx d 343 900 lo [] h Ψ := by
  refine zh_ald zJ_343 (k' := 901) rfl rfl Lv.2.1 ?_
  obtain ⟨fs0, he0, -⟩ := zcell0 (c := 8) (n := 8) I.1 I.2.2.1 rfl rfl rfl
  refine zlcq (ct := zC173) (as := [.ref ax]) (i := (54, 162, 0, 8)) I.v rfl (k' := 902) rfl (by decide) (zcal54 (xs := []) (rest := []) (by omega) rfl rfl he0 rfl (Nat.le_of_ble_eq_true rfl) (M' := z_m162) rfl (Nat.le_of_ble_eq_true rfl)) (H 173 _ rfl) rfl (by show 9 + 1 ≤ d; omega) rfl (by decide +kernel) (by decide +kernel) (by decide +kernel) ⟨⟨ax, 1, rfl, I.2.2.1, Int.le_refl _, Int.le_refl _⟩, trivial⟩ sq_162 rfl (fun ty1 h1 w1 x1 y1 I1 V1 G1 cx1 cy1 l1 => ?_)
  have cx1 : x1 ≤ 0 := cx1
  have cy1 : y1 ≤ 0 := cy1
  match w1, V1, G1 with
  | some w1, V1, G1 =>
  obtain ⟨c1, rfl, -⟩ := V1
  have G1 : p_162 ax (za h) c1 (za h1) := by
    obtain ⟨r9, er9, g9⟩ := G1
    have er9 : r9 = c1 := by cases er9; rfl
    rw [er9] at g9
    exact g9
  show z_ok sx d 343 902 lo [.int c1] h1 _
  refine zpop rfl (k' := 903) rfl ?_
  refine zh_ald zJ_343 (k' := 904) rfl rfl Lv.2.2.1 ?_
  obtain ⟨fs1, he1, -⟩ := zcell0 (c := 9) (n := 23) I1.1 I1.2.2.2.1 rfl rfl rfl
  refine zlcq (ct := zC31) (as := [.ref am]) (i := (54, 183, 0, 9)) I1 rfl (k' := 905) rfl (by decide) (zcal54 (xs := []) (rest := []) (by omega) rfl rfl he1 rfl (Nat.le_of_ble_eq_true rfl) (M' := z_m183) rfl (Nat.le_of_ble_eq_true rfl)) (H 31 _ rfl) rfl (by show 0 + 1 ≤ d; omega) rfl (by decide +kernel) (by decide +kernel) (by decide +kernel) ⟨⟨am, 20, rfl, I1.2.2.2.1, Int.le_refl _, Int.le_refl _⟩, trivial⟩ sq_183 rfl (fun ty2 h2 w2 x2 y2 I2 V2 G2 cx2 cy2 l2 => ?_)
  have cx2 : x2 ≤ 0 := cx2
  have cy2 : y2 ≤ 0 := cy2
  match w2, V2, G2 with
  | some w2, V2, G2 =>
  obtain ⟨c2, rfl, -⟩ := V2
  have G2 : p_183 am (za h1) c2 (za h2) := by
    obtain ⟨r9, er9, g9⟩ := G2
    have er9 : r9 = c2 := by cases er9; rfl
    rw [er9] at g9
    exact g9
  have Z2 : zHld (za h2) ∧ c1 = c2 := by
    obtain ⟨⟨rfl, rfl, rfl⟩, -⟩ := I.lx
    obtain ⟨p0, w0, K0, R0⟩ := I.hd
    exact zq_44 w0 K0 R0 G1 G2
  have I2 := I2.w Z2.1
  have ec : c1.toInt = c2.toInt := congrArg Int32.toInt Z2.2
  show z_ok sx d 343 905 lo [.int c2] h2 _
  refine zpop rfl (k' := 906) rfl ?_
  refine zgoto rfl ?_
  exact K.use I2 Lv (by omega) (by omega) (by omega)
set_option maxRecDepth 100000 in
theorem zcs_45 {sx : zX} {d : Nat} {ty : List Nat} {lo : zL} {h : zH} {Ψ : zO → zH → Nat → Nat → Prop} {ax am ao i : Nat} {N : Int} (H : ∀ (c : Nat) (c' : zCt), zCtl[c]? = some c' → zVd z_tt zE1 c') (hd : 60 ≤ d) (hi : i + 6 ≤ sx.1) (hL : sx.1 ≤ 3072) (hB : h.length + 6 ≤ zB) (I : zIw ty h ax am ao N) (Lv : zLv lo ax am ao i) (K : zKc sx d ax am ao i h Ψ) : z_ok sx d 343 907 lo [] h Ψ := by
  refine zh_ald zJ_343 (k' := 908) rfl rfl Lv.2.1 ?_
  obtain ⟨fs0, he0, -⟩ := zcell0 (c := 8) (n := 8) I.1 I.2.2.1 rfl rfl rfl
  refine zlcq (ct := zC174) (as := [.ref ax]) (i := (54, 163, 0, 8)) I.v rfl (k' := 909) rfl (by decide) (zcal54 (xs := []) (rest := []) (by omega) rfl rfl he0 rfl (Nat.le_of_ble_eq_true rfl) (M' := z_m163) rfl (Nat.le_of_ble_eq_true rfl)) (H 174 _ rfl) rfl (by show 8 + 1 ≤ d; omega) rfl (by decide +kernel) (by decide +kernel) (by decide +kernel) ⟨⟨ax, 1, rfl, I.2.2.1, Int.le_refl _, Int.le_refl _⟩, trivial⟩ sq_163 rfl (fun ty1 h1 w1 x1 y1 I1 V1 G1 cx1 cy1 l1 => ?_)
  have cx1 : x1 ≤ 0 := cx1
  have cy1 : y1 ≤ 0 := cy1
  match w1, V1, G1 with
  | none, V1, G1 =>
  have G1 : p_163 ax (za h) (za h1) := G1.2
  show z_ok sx d 343 909 lo [] h1 _
  refine zh_ald zJ_343 (k' := 910) rfl rfl Lv.2.2.1 ?_
  obtain ⟨fs1, he1, -⟩ := zcell0 (c := 9) (n := 23) I1.1 I1.2.2.2.1 rfl rfl rfl
  refine zlcq (ct := zC28) (as := [.ref am]) (i := (54, 180, 0, 9)) I1 rfl (k' := 911) rfl (by decide) (zcal54 (xs := []) (rest := []) (by omega) rfl rfl he1 rfl (Nat.le_of_ble_eq_true rfl) (M' := z_m180) rfl (Nat.le_of_ble_eq_true rfl)) (H 28 _ rfl) rfl (by show 0 + 1 ≤ d; omega) rfl (by decide +kernel) (by decide +kernel) (by decide +kernel) ⟨⟨am, 20, rfl, I1.2.2.2.1, Int.le_refl _, Int.le_refl _⟩, trivial⟩ sq_180 rfl (fun ty2 h2 w2 x2 y2 I2 V2 G2 cx2 cy2 l2 => ?_)
  have cx2 : x2 ≤ 0 := cx2
  have cy2 : y2 ≤ 0 := cy2
  match w2, V2, G2 with
  | none, V2, G2 =>
  have G2 : p_180 am (za h1) (za h2) := G2.2
  have Z2 : zHld (za h2) := by
    obtain ⟨⟨rfl, rfl, rfl⟩, -⟩ := I.lx
    obtain ⟨p0, w0, K0, R0⟩ := I.hd
    exact zq_45 w0 K0 R0 G1 G2
  have I2 := I2.w Z2
  show z_ok sx d 343 911 lo [] h2 _
  refine zgoto rfl ?_
  exact K.use I2 Lv (by omega) (by omega) (by omega)
set_option maxRecDepth 100000 in
theorem zcs_46 {sx : zX} {d : Nat} {ty : List Nat} {lo : zL} {h : zH} {Ψ : zO → zH → Nat → Nat → Prop} {ax am ao i : Nat} {N : Int} (H : ∀ (c : Nat) (c' : zCt), zCtl[c]? = some c' → zVd z_tt zE1 c') (hd : 60 ≤ d) (hi : i + 6 ≤ sx.1) (hL : sx.1 ≤ 3072) (hB : h.length + 6 ≤ zB) (I : zIw ty h ax am ao N) (Lv : zLv lo ax am ao i) (K : zKc sx d ax am ao i h Ψ) : z_ok sx d 343 912 lo [] h Ψ := by
  refine zh_ald zJ_343 (k' := 913) rfl rfl Lv.2.1 ?_
  obtain ⟨fs0, he0, -⟩ := zcell0 (c := 8) (n := 8) I.1 I.2.2.1 rfl rfl rfl
  refine zlcq (ct := zC175) (as := [.ref ax]) (i := (54, 164, 0, 8)) I.v rfl (k' := 914) rfl (by decide) (zcal54 (xs := []) (rest := []) (by omega) rfl rfl he0 rfl (Nat.le_of_ble_eq_true rfl) (M' := z_m164) rfl (Nat.le_of_ble_eq_true rfl)) (H 175 _ rfl) rfl (by show 8 + 1 ≤ d; omega) rfl (by decide +kernel) (by decide +kernel) (by decide +kernel) ⟨⟨ax, 1, rfl, I.2.2.1, Int.le_refl _, Int.le_refl _⟩, trivial⟩ sq_164 rfl (fun ty1 h1 w1 x1 y1 I1 V1 G1 cx1 cy1 l1 => ?_)
  have cx1 : x1 ≤ 0 := cx1
  have cy1 : y1 ≤ 0 := cy1
  match w1, V1, G1 with
  | some w1, V1, G1 =>
  obtain ⟨c1, rfl, -⟩ := V1
  have G1 : p_164 ax (za h) c1 (za h1) := by
    obtain ⟨r9, er9, g9⟩ := G1
    have er9 : r9 = c1 := by cases er9; rfl
    rw [er9] at g9
    exact g9
  show z_ok sx d 343 914 lo [.int c1] h1 _
  refine zpop rfl (k' := 915) rfl ?_
  refine zh_ald zJ_343 (k' := 916) rfl rfl Lv.2.2.1 ?_
  obtain ⟨fs1, he1, -⟩ := zcell0 (c := 9) (n := 23) I1.1 I1.2.2.2.1 rfl rfl rfl
  refine zlcq (ct := zC29) (as := [.ref am]) (i := (54, 181, 0, 9)) I1 rfl (k' := 917) rfl (by decide) (zcal54 (xs := []) (rest := []) (by omega) rfl rfl he1 rfl (Nat.le_of_ble_eq_true rfl) (M' := z_m181) rfl (Nat.le_of_ble_eq_true rfl)) (H 29 _ rfl) rfl (by show 0 + 1 ≤ d; omega) rfl (by decide +kernel) (by decide +kernel) (by decide +kernel) ⟨⟨am, 20, rfl, I1.2.2.2.1, Int.le_refl _, Int.le_refl _⟩, trivial⟩ sq_181 rfl (fun ty2 h2 w2 x2 y2 I2 V2 G2 cx2 cy2 l2 => ?_)
  have cx2 : x2 ≤ 0 := cx2
  have cy2 : y2 ≤ 0 := cy2
  match w2, V2, G2 with
  | some w2, V2, G2 =>
  obtain ⟨c2, rfl, -⟩ := V2
  have G2 : p_181 am (za h1) c2 (za h2) := by
    obtain ⟨r9, er9, g9⟩ := G2
    have er9 : r9 = c2 := by cases er9; rfl
    rw [er9] at g9
    exact g9
  have Z2 : zHld (za h2) ∧ c1 = c2 := by
    obtain ⟨⟨rfl, rfl, rfl⟩, -⟩ := I.lx
    obtain ⟨p0, w0, K0, R0⟩ := I.hd
    exact zq_46 w0 K0 R0 G1 G2
  have I2 := I2.w Z2.1
  have ec : c1.toInt = c2.toInt := congrArg Int32.toInt Z2.2
  show z_ok sx d 343 917 lo [.int c2] h2 _
  refine zpop rfl (k' := 918) rfl ?_
  refine zgoto rfl ?_
  exact K.use I2 Lv (by omega) (by omega) (by omega)
set_option maxRecDepth 100000 in
theorem zcs_47 {sx : zX} {d : Nat} {ty : List Nat} {lo : zL} {h : zH} {Ψ : zO → zH → Nat → Nat → Prop} {ax am ao i : Nat} {N : Int} (H : ∀ (c : Nat) (c' : zCt), zCtl[c]? = some c' → zVd z_tt zE1 c') (hd : 60 ≤ d) (hi : i + 6 ≤ sx.1) (hL : sx.1 ≤ 3072) (hB : h.length + 6 ≤ zB) (I : zIw ty h ax am ao N) (Lv : zLv lo ax am ao i) (K : zKc sx d ax am ao i h Ψ) : z_ok sx d 343 919 lo [] h Ψ := by
  refine zh_ald zJ_343 (k' := 920) rfl rfl Lv.2.1 ?_
  refine zscr 920 921 922 923 924 925 1 rfl rfl rfl rfl rfl rfl rfl rfl rfl rfl rfl (by omega) Lv hi hL (fun v0 ev0 => ?_)
  obtain ⟨fs0, he0, -⟩ := zcell0 (c := 8) (n := 8) I.1 I.2.2.1 rfl rfl rfl
  refine zlcon (ct := zC176) (as := [.ref ax, .int v0]) (i := (54, 165, 1, 8)) I rfl (k' := 926) rfl (by decide) (zcal54 (xs := [.int v0]) (rest := []) (by omega) rfl rfl he0 rfl (Nat.le_of_ble_eq_true rfl) (M' := z_m165) rfl (Nat.le_of_ble_eq_true rfl)) (H 176 _ rfl) rfl (by show 3 + 1 ≤ d; omega) rfl (by decide +kernel) (by decide +kernel) (by decide +kernel) (by decide +kernel) ⟨⟨ax, 1, rfl, I.2.2.1, Int.le_refl _, Int.le_refl _⟩, zFull_ok _, trivial⟩ (fun ty1 h1 w1 x1 y1 I1 V1 cx1 cy1 l1 => ?_)
  have cx1 : x1 ≤ 0 := cx1
  have cy1 : y1 ≤ 0 := cy1
  match w1, V1 with
  | some w1, V1 =>
  obtain ⟨c1, rfl, -⟩ := V1
  show z_ok sx d 343 926 lo [.int c1] h1 _
  refine zpop rfl (k' := 927) rfl ?_
  refine zh_ald zJ_343 (k' := 928) rfl rfl Lv.2.2.1 ?_
  refine zscr 928 929 930 931 932 933 1 rfl rfl rfl rfl rfl rfl rfl rfl rfl rfl rfl (by omega) Lv hi hL (fun v1 ev1 => ?_)
  obtain ⟨fs1, he1, -⟩ := zcell0 (c := 9) (n := 23) I1.1 I1.2.2.2.1 rfl rfl rfl
  refine zlcon (ct := zC224) (as := [.ref am, .int v1]) (i := (54, 310, 1, 9)) I1 rfl (k' := 934) rfl (by decide) (zcal54 (xs := [.int v1]) (rest := []) (by omega) rfl rfl he1 rfl (Nat.le_of_ble_eq_true rfl) (M' := z_m310) rfl (Nat.le_of_ble_eq_true rfl)) (H 224 _ rfl) rfl (by show 4 + 1 ≤ d; omega) rfl (by decide +kernel) (by decide +kernel) (by decide +kernel) (by decide +kernel) ⟨⟨am, 20, rfl, I1.2.2.2.1, Int.le_refl _, Int.le_refl _⟩, zFull_ok _, trivial⟩ (fun ty2 h2 w2 x2 y2 I2 V2 cx2 cy2 l2 => ?_)
  have cx2 : x2 ≤ 0 := cx2
  have cy2 : y2 ≤ 0 := cy2
  match w2, V2 with
  | some w2, V2 =>
  obtain ⟨c2, rfl, -⟩ := V2
  show z_ok sx d 343 934 lo [.int c2] h2 _
  refine zpop rfl (k' := 935) rfl ?_
  refine zgoto rfl ?_
  exact K.use I2 Lv (by omega) (by omega) (by omega)
