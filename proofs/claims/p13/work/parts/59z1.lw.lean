/-! the law's cases 0 to 11; printed with wip/gen/gen_law.py -/
set_option maxRecDepth 100000 in
theorem zcs_0 {sx : zX} {d : Nat} {ty : List Nat} {lo : zL} {h : zH} {Ψ : zO → zH → Nat → Nat → Prop} {ax am ao i : Nat} {N : Int} (H : ∀ (c : Nat) (c' : zCt), zCtl[c]? = some c' → zVd z_tt zE1 c') (hd : 60 ≤ d) (hi : i + 6 ≤ sx.1) (hL : sx.1 ≤ 3072) (hB : h.length + 6 ≤ zB) (I : zIw ty h ax am ao N) (Lv : zLv lo ax am ao i) (K : zKc sx d ax am ao i h Ψ) : z_ok sx d 343 25 lo [] h Ψ := by
  refine zh_ald zJ_343 (k' := 26) rfl rfl Lv.2.1 ?_
  refine zscr 26 27 28 29 30 31 1 rfl rfl rfl rfl rfl rfl rfl rfl rfl rfl rfl (by omega) Lv hi hL (fun v0 ev0 => ?_)
  refine zscr 31 32 33 34 35 36 2 rfl rfl rfl rfl rfl rfl rfl rfl rfl rfl rfl (by omega) Lv hi hL (fun v1 ev1 => ?_)
  refine zscr 36 37 38 39 40 41 3 rfl rfl rfl rfl rfl rfl rfl rfl rfl rfl rfl (by omega) Lv hi hL (fun v2 ev2 => ?_)
  refine zscr 41 42 43 44 45 46 4 rfl rfl rfl rfl rfl rfl rfl rfl rfl rfl rfl (by omega) Lv hi hL (fun v3 ev3 => ?_)
  refine zscr 46 47 48 49 50 51 5 rfl rfl rfl rfl rfl rfl rfl rfl rfl rfl rfl (by omega) Lv hi hL (fun v4 ev4 => ?_)
  obtain ⟨fs0, he0, -⟩ := zcell0 (c := 8) (n := 8) I.1 I.2.2.1 rfl rfl rfl
  obtain ⟨tq, Q0⟩ := I.2.2.2.2.2.1.q I.2.2.1
  refine zlrun (as := [.ref ax, .int v0, .int v1, .int v2, .int v3, .int v4]) (i := (54, 118, 5, 8)) rfl (k' := 52) rfl (by decide) (zcal54 (xs := [.int v4, .int v3, .int v2, .int v1, .int v0]) (rest := []) (by omega) rfl rfl he0 rfl (Nat.le_of_ble_eq_true rfl) (M' := z_m118) rfl (Nat.le_of_ble_eq_true rfl)) (z_ok.lenq (by decide +kernel) (sq_118.ok (zTY_kh I.1) rfl rfl (zS_118 (sx := sx) (d := d - 1) (fun c hc c' hc' => H c c' hc') (by omega) I.1 I.2.1 Q0 I.2.2.2.2.2.2.2.1 I.b2))) (fun o1 h1 x1 y1 q1 l1 => ?_)
  obtain ⟨⟨⟨w1, rfl, rfl, rfl, c1, ty1, rfl, X1, T1, E1, F1, R1⟩, -, G1⟩, hq1⟩ := q1
  have G1 : p_118 ax v0 v1 v2 v3 v4 (za h) c1 (za h1) := by
    obtain ⟨r9, er9, g9⟩ := G1
    have er9 : r9 = c1 := by cases er9; rfl
    rw [er9] at g9
    exact g9
  refine ⟨_, rfl, ?_⟩
  have ha1 := X1 ax 1 I.2.2.1
  have hm1 := X1 am 20 I.2.2.2.1
  have ho1 := X1 ao 33 I.2.2.2.2.1
  have M1 := I.2.2.2.2.2.2.1.keep I.2.2.2.1 T1 X1 F1 (zNin _ _ _ (by decide +kernel))
  have Lt1 := I.lt.keep I.1 T1 X1 hq1
  have Hd1 := I.hd.keep I.1 T1 I.lx.2.1 X1 I.lt F1 hq1 (by decide +kernel)
  show z_ok sx d 343 52 lo [.int c1] h1 _
  refine zpop rfl (k' := 53) rfl ?_
  refine zh_ald zJ_343 (k' := 54) rfl rfl Lv.2.2.1 ?_
  refine zscr 54 55 56 57 58 59 1 rfl rfl rfl rfl rfl rfl rfl rfl rfl rfl rfl (by omega) Lv hi hL (fun v5 ev5 => ?_)
  refine zscr 59 60 61 62 63 64 2 rfl rfl rfl rfl rfl rfl rfl rfl rfl rfl rfl (by omega) Lv hi hL (fun v6 ev6 => ?_)
  refine zscr 64 65 66 67 68 69 3 rfl rfl rfl rfl rfl rfl rfl rfl rfl rfl rfl (by omega) Lv hi hL (fun v7 ev7 => ?_)
  refine zscr 69 70 71 72 73 74 4 rfl rfl rfl rfl rfl rfl rfl rfl rfl rfl rfl (by omega) Lv hi hL (fun v8 ev8 => ?_)
  refine zscr 74 75 76 77 78 79 5 rfl rfl rfl rfl rfl rfl rfl rfl rfl rfl rfl (by omega) Lv hi hL (fun v9 ev9 => ?_)
  obtain ⟨fs1, he1, -⟩ := zcell0 (c := 9) (n := 23) T1 hm1 rfl rfl rfl
  refine zlrun (as := [.ref am, .int v5, .int v6, .int v7, .int v8, .int v9]) (i := (54, 199, 5, 9)) rfl (k' := 80) rfl (by decide) (zcal54 (xs := [.int v9, .int v8, .int v7, .int v6, .int v5]) (rest := []) (by omega) rfl rfl he1 rfl (Nat.le_of_ble_eq_true rfl) (M' := z_m199) rfl (Nat.le_of_ble_eq_true rfl)) (z_ok.lenq (by decide +kernel) (sq_199.ok (zTY_kh T1) rfl rfl (zS_199 (sx := sx) (d := d - 1) (fun c hc c' hc' => H c c' hc') T1 E1 hm1 M1 I.2.2.2.2.2.2.2.1 I.b2))) (fun o2 h2 x2 y2 q2 l2 => ?_)
  obtain ⟨⟨⟨w2, rfl, rfl, rfl, c2, ty2, rfl, X2, T2, E2, F2, R2⟩, -, G2⟩, hq2⟩ := q2
  have G2 : p_199 am v5 v6 v7 v8 v9 (za h1) c2 (za h2) := by
    obtain ⟨r9, er9, g9⟩ := G2
    have er9 : r9 = c2 := by cases er9; rfl
    rw [er9] at g9
    exact g9
  have ee0 : v5 = v0 := by rw [ev5, ev0]
  have ee1 : v6 = v1 := by rw [ev6, ev1]
  have ee2 : v7 = v2 := by rw [ev7, ev2]
  have ee3 : v8 = v3 := by rw [ev8, ev3]
  have ee4 : v9 = v4 := by rw [ev9, ev4]
  rw [ee0, ee1, ee2, ee3, ee4] at G2
  have X01 : zExt zty1 ty1 := fun a t ha => X1 a t (I.lx.2.1 a t ha)
  have Lx2 : zLxt ty2 h2 ax am ao := by
    obtain ⟨⟨rfl, rfl, rfl⟩, X0, S, Y⟩ := I.lx
    obtain ⟨E0, eN, w1, w9⟩ := zL5_of I.2.2.2.2.2.1 I.2.2.2.2.2.2.1 I.2.2.2.2.2.2.2.1 S
    have S1 := S.keep I.1 T1 F1 X0 (by decide +kernel)
    have S2 := S1.keep T1 T2 F2 X01 (by decide +kernel)
    exact ⟨⟨rfl, rfl, rfl⟩, fun a t ha => X2 a t (X01 a t ha), S2, zfeed_by I.1 T1 T2 X0 X01 S S1 S2 Y F1 F2 w1 w9 (by have := I.b2; omega) G1 G2⟩
  have Lt2 := Lt1.keep T1 T2 X2 hq2
  have Hd2 := Hd1.keep T1 T2 X01 X2 Lt1 F2 hq2 (by decide +kernel)
  refine ⟨_, rfl, ?_⟩
  have n10 : ¬ zIn [(20, 0, 0), (20, 9, 9), (26, 0, 399), (27, 0, 4)] 1 0 := zNin _ _ _ (by decide +kernel)
  have n21 : ¬ zIn [(20, 0, 0), (20, 9, 9), (26, 0, 399), (27, 0, 4)] 2 1 := zNin _ _ _ (by decide +kernel)
  have ec : c1.toInt = c2.toInt := by
    rcases R1 with R1 | R1 <;> rcases R2 with R2 | R2 <;> omega
  have I2 : ∃ N', zIw ty2 h2 ax am ao N' := by
    rcases R1 with ⟨r1, r2, r3⟩ | ⟨r1, r2, r3⟩ <;> rcases R2 with ⟨s1, s2, s3⟩ | ⟨s1, s2, s3⟩
    · exact ⟨N + 20, T2, E2, X2 ax 1 ha1, X2 am 20 hm1, X2 ao 33 ho1, r3.keep ha1 T2 X2 F2 n10 n21, s3, by have := I.2.2.2.2.2.2.2.1; omega, r1, Lx2, Lt2, Hd2⟩
    · omega
    · omega
    · exact ⟨N, T2, E2, X2 ax 1 ha1, X2 am 20 hm1, X2 ao 33 ho1, r3.keep ha1 T2 X2 F2 n10 n21, s3, I.2.2.2.2.2.2.2.1, I.b2, Lx2, Lt2, Hd2⟩
  obtain ⟨N', I2⟩ := I2
  show z_ok sx d 343 80 lo [.int c2] h2 _
  refine zpop rfl (k' := 81) rfl ?_
  refine zgoto rfl ?_
  exact K.use I2 Lv (by omega) (by omega) (by omega)
set_option maxRecDepth 100000 in
theorem zcs_1 {sx : zX} {d : Nat} {ty : List Nat} {lo : zL} {h : zH} {Ψ : zO → zH → Nat → Nat → Prop} {ax am ao i : Nat} {N : Int} (H : ∀ (c : Nat) (c' : zCt), zCtl[c]? = some c' → zVd z_tt zE1 c') (hd : 60 ≤ d) (hi : i + 6 ≤ sx.1) (hL : sx.1 ≤ 3072) (hB : h.length + 6 ≤ zB) (I : zIw ty h ax am ao N) (Lv : zLv lo ax am ao i) (K : zKc sx d ax am ao i h Ψ) : z_ok sx d 343 82 lo [] h Ψ := by
  refine zh_ald zJ_343 (k' := 83) rfl rfl Lv.2.1 ?_
  refine zscr 83 84 85 86 87 88 1 rfl rfl rfl rfl rfl rfl rfl rfl rfl rfl rfl (by omega) Lv hi hL (fun v0 ev0 => ?_)
  obtain ⟨fs0, he0, -⟩ := zcell0 (c := 8) (n := 8) I.1 I.2.2.1 rfl rfl rfl
  obtain ⟨tq, Q0⟩ := I.2.2.2.2.2.1.q I.2.2.1
  refine zlrun (as := [.ref ax, .int v0]) (i := (54, 119, 1, 8)) rfl (k' := 89) rfl (by decide) (zcal54 (xs := [.int v0]) (rest := []) (by omega) rfl rfl he0 rfl (Nat.le_of_ble_eq_true rfl) (M' := z_m119) rfl (Nat.le_of_ble_eq_true rfl)) (z_ok.lenq (by decide +kernel) (zS_119 (sx := sx) (d := d - 1) I.1 I.2.1 Q0 I.b2)) (fun o1 h1 x1 y1 q1 l1 => ?_)
  obtain ⟨⟨w1, rfl, rfl, rfl, c1, rfl, T1, E1, F1, R1⟩, hq1⟩ := q1
  refine ⟨_, rfl, ?_⟩
  have M1 := I.2.2.2.2.2.2.1.keep I.2.2.2.1 T1 zExt.rf F1 (zNin _ _ _ (by decide +kernel))
  have Lx1 := I.lx.keep I.1 T1 zExt.rf F1 (by decide +kernel)
  have Hd1 := I.hd.keep I.1 T1 I.lx.2.1 zExt.rf I.lt F1 hq1 (by decide +kernel)
  show z_ok sx d 343 89 lo [.int c1] h1 _
  refine zpop rfl (k' := 90) rfl ?_
  refine zh_ald zJ_343 (k' := 91) rfl rfl Lv.2.2.1 ?_
  refine zscr 91 92 93 94 95 96 1 rfl rfl rfl rfl rfl rfl rfl rfl rfl rfl rfl (by omega) Lv hi hL (fun v1 ev1 => ?_)
  obtain ⟨fs1, he1, -⟩ := zcell0 (c := 9) (n := 23) T1 I.2.2.2.1 rfl rfl rfl
  have ev : v1 = v0 := ev1.trans ev0.symm
  subst ev
  refine zlrun (as := [.ref am, .int v1]) (i := (54, 200, 1, 9)) rfl (k' := 97) rfl (by decide) (zcal54 (xs := [.int v1]) (rest := []) (by omega) rfl rfl he1 rfl (Nat.le_of_ble_eq_true rfl) (M' := z_m200) rfl (Nat.le_of_ble_eq_true rfl)) (z_ok.lenq (by decide +kernel) (zS_200 (sx := sx) (d := d - 1) T1 E1 I.2.2.2.1 M1 I.b2)) (fun o2 h2 x2 y2 q2 l2 => ?_)
  obtain ⟨⟨w2, rfl, rfl, rfl, c2, rfl, T2, E2, F2, R2⟩, hq2⟩ := q2
  refine ⟨_, rfl, ?_⟩
  have Lx2 := Lx1.keep T1 T2 zExt.rf F2 (by decide +kernel)
  have Hd2 := Hd1.keep T1 T2 Lx1.2.1 zExt.rf I.lt F2 hq2 (by decide +kernel)
  have Lt2 := I.lt
  have n10 : ¬ zIn [(20, 0, 0), (20, 9, 9)] 1 0 := zNin _ _ _ (by decide +kernel)
  have n21 : ¬ zIn [(20, 0, 0), (20, 9, 9)] 2 1 := zNin _ _ _ (by decide +kernel)
  have b1 := I.2.2.2.2.2.2.2.1
  have b2 := I.b2
  have ec : c1.toInt = c2.toInt := by
    rcases R1 with ⟨r1, k1, r3⟩ | ⟨r1, k1, r3⟩ <;> rcases R2 with ⟨s1, k2, s3⟩ | ⟨s1, k2, s3⟩
    · rw [k1, k2]
    · exact absurd r1 s1
    · exact absurd s1 r1
    · rw [k1, k2]
  have I2 : ∃ N', zIw ty h2 ax am ao N' := by
    rcases R1 with ⟨r1, -, r3⟩ | ⟨r1, -, r3⟩ <;> rcases R2 with ⟨s1, -, s3⟩ | ⟨s1, -, s3⟩
    · exact ⟨_, T2, E2, I.2.2.1, I.2.2.2.1, I.2.2.2.2.1, r3.keep I.2.2.1 T2 zExt.rf F2 n10 n21, s3, by omega, by omega, Lx2, Lt2, Hd2⟩
    · exact absurd r1 s1
    · exact absurd s1 r1
    · exact ⟨N, T2, E2, I.2.2.1, I.2.2.2.1, I.2.2.2.2.1, r3.keep I.2.2.1 T2 zExt.rf F2 n10 n21, s3, b1, b2, Lx2, Lt2, Hd2⟩
  obtain ⟨N', I2⟩ := I2
  show z_ok sx d 343 97 lo [.int c2] h2 _
  refine zpop rfl (k' := 98) rfl ?_
  refine zgoto rfl ?_
  exact K.use I2 Lv (by omega) (by omega) (by omega)
set_option maxRecDepth 100000 in
theorem zcs_2 {sx : zX} {d : Nat} {ty : List Nat} {lo : zL} {h : zH} {Ψ : zO → zH → Nat → Nat → Prop} {ax am ao i : Nat} {N : Int} (H : ∀ (c : Nat) (c' : zCt), zCtl[c]? = some c' → zVd z_tt zE1 c') (hd : 60 ≤ d) (hi : i + 6 ≤ sx.1) (hL : sx.1 ≤ 3072) (hB : h.length + 6 ≤ zB) (I : zIw ty h ax am ao N) (Lv : zLv lo ax am ao i) (K : zKc sx d ax am ao i h Ψ) : z_ok sx d 343 99 lo [] h Ψ := by
  refine zh_ald zJ_343 (k' := 100) rfl rfl Lv.2.1 ?_
  refine zh_ald zJ_343 (k' := 101) rfl rfl Lv.2.2.2.1 ?_
  refine zlrun (as := [.ref ax, .ref ao]) (i := (72, 315, 2, 0)) rfl (k' := 102) rfl (by decide) (zcal72 (xs := [.ref ao, .ref ax]) (rest := []) (by omega) rfl rfl (Nat.le_of_ble_eq_true rfl) (M' := z_m315) rfl (Nat.le_of_ble_eq_true rfl)) (z_ok.lenq (by decide +kernel) (sq_315.ok (zTY_kh I.1) rfl rfl (zS_315 (sx := sx) (d := d - 1) (fun c hc c' hc' => H c c' hc') (by omega) I.1 I.2.1 I.2.2.1 I.2.2.2.2.1))) (fun o1 h1 x1 y1 q1 l1 => ?_)
  obtain ⟨⟨⟨c1, ty1, rfl, X1, T1, E1, F1, P1, cx1, cy1⟩, -, G1⟩, hq1⟩ := q1
  have G1 : p_315 ax ao (za h) c1 (za h1) := by
    obtain ⟨r9, er9, g9⟩ := G1
    have er9 : r9 = c1 := by cases er9; rfl
    rw [er9] at g9
    exact g9
  have ha1 := X1 ax 1 I.2.2.1
  have hm1 := X1 am 20 I.2.2.2.1
  have ho1 := X1 ao 33 I.2.2.2.2.1
  have Lx1 := I.lx.keep I.1 T1 X1 F1 (by decide +kernel)
  have Lt1 := I.lt.keep I.1 T1 X1 hq1
  refine ⟨_, rfl, ?_⟩
  show z_ok sx d 343 102 lo [.int c1] h1 _
  refine zh_ist zJ_343 (a := 5) (b := 0) (z := 0) rfl (k' := 103) rfl ?_
  refine zh_ald zJ_343 (k' := 104) rfl rfl (Lv.set (b := 5) (v := c1) (by omega)).2.2.1 ?_
  obtain ⟨fs1, he1, -⟩ := zcell0 (c := 9) (n := 23) T1 hm1 rfl rfl rfl
  refine zlrun (as := [.ref am]) (i := (54, 231, 0, 9)) rfl (k' := 105) rfl (by decide) (zcal54 (xs := []) (rest := []) (by omega) rfl rfl he1 rfl (Nat.le_of_ble_eq_true rfl) (M' := z_m231) rfl (Nat.le_of_ble_eq_true rfl)) (z_ok.lenq (by decide +kernel) (sq_231.ok (zTY_kh T1) rfl rfl (zS_231 (sx := sx) (d := d - 1) (fun c hc c' hc' => H c c' hc') (by omega) T1 E1 hm1))) (fun o2 h2 x2 y2 q2 l2 => ?_)
  obtain ⟨⟨⟨w2, rfl, rfl, rfl, ⟨c2, rfl⟩, ty2, X2, T2, E2, F2, N2⟩, -, G2⟩, hq2⟩ := q2
  have G2 : p_231 am (za h1) c2 (za h2) := by
    obtain ⟨r9, er9, g9⟩ := G2
    have er9 : r9 = c2 := by cases er9; rfl
    rw [er9] at g9
    exact g9
  have Lx2 := Lx1.keep T1 T2 X2 F2 (by decide +kernel)
  have Lt2 := Lt1.keep T1 T2 X2 hq2
  have Z2 : zHld (za h2) ∧ zLik (za h2) c1 c2 := by
    obtain ⟨⟨rfl, rfl, rfl⟩, X0, S, Y⟩ := I.lx
    obtain ⟨E0, eN, w1, w9⟩ := zL5_of I.2.2.2.2.2.1 I.2.2.2.2.2.2.1 I.2.2.2.2.2.2.2.1 S
    obtain ⟨p0, w0, K0, R0⟩ := I.hd
    have hE0 : E0 ≤ 400 := by have := I.b2; omega
    exact zq_2 w0 K0 R0 (zTpe_of I.1 X0 S hE0 w1 w9 Y) G1 G2
  have Hd2 := Z2.1
  have GE : ∃ t : Int32, zv h2 am 0 = .int t ∧ t.toInt = c1.toInt ∧ (c1.toInt = 0 → zv h2 ao 0 = .long c2.toInt64) := by
    obtain ⟨⟨rfl, rfl, rfl⟩, -⟩ := I.lx
    exact Z2.2
  refine ⟨_, rfl, ?_⟩
  have I2 : zIw ty2 h2 ax am ao 0 := ⟨T2, E2, X2 ax 1 ha1, X2 am 20 hm1, X2 ao 33 ho1, P1.keep ha1 T2 X2 F2 (zNin _ _ _ (by decide +kernel)) (zNin _ _ _ (by decide +kernel)), N2.mp, by decide, by decide, Lx2, Lt2, Hd2⟩
  show z_ok sx d 343 105 (z_set1 lo 5 (.int c1)) [.int c2] h2 _
  refine zh_ist zJ_343 (a := 6) (b := 0) (z := 0) rfl (k' := 106) rfl ?_
  refine zgoto rfl ?_
  exact K.use I2 ((Lv.set (b := 5) (v := c1) (by omega)).set (b := 6) (v := c2) (by omega)) (by omega) (by omega) (by omega)
set_option maxRecDepth 100000 in
theorem zcs_3 {sx : zX} {d : Nat} {ty : List Nat} {lo : zL} {h : zH} {Ψ : zO → zH → Nat → Nat → Prop} {ax am ao i : Nat} {N : Int} (H : ∀ (c : Nat) (c' : zCt), zCtl[c]? = some c' → zVd z_tt zE1 c') (hd : 60 ≤ d) (hi : i + 6 ≤ sx.1) (hL : sx.1 ≤ 3072) (hB : h.length + 6 ≤ zB) (I : zIw ty h ax am ao N) (Lv : zLv lo ax am ao i) (K : zKc sx d ax am ao i h Ψ) : z_ok sx d 343 107 lo [] h Ψ := by
  refine zh_ald zJ_343 (k' := 108) rfl rfl Lv.2.1 ?_
  refine zh_ald zJ_343 (k' := 109) rfl rfl Lv.2.2.2.1 ?_
  refine zlrun (as := [.ref ax, .ref ao]) (i := (72, 316, 2, 0)) rfl (k' := 110) rfl (by decide) (zcal72 (xs := [.ref ao, .ref ax]) (rest := []) (by omega) rfl rfl (Nat.le_of_ble_eq_true rfl) (M' := z_m316) rfl (Nat.le_of_ble_eq_true rfl)) (sq_316w.ok (zTY_kh I.1) rfl rfl (zS_316 (sx := sx) (d := d - 1) (fun c hc c' hc' => H c c' hc') (by omega) hB I.1 I.2.1 I.2.2.1 I.2.2.2.2.1)) (fun o1 h1 x1 y1 q1 l1 => ?_)
  obtain ⟨⟨c1, ty1, rfl, X1, T1, E1, F1, P1, cx1, cy1⟩, -, G1⟩ := q1
  have G1 : p_316w ax ao (za h) c1 (za h1) := by
    obtain ⟨r9, er9, g9⟩ := G1
    have er9 : r9 = c1 := by cases er9; rfl
    rw [er9] at g9
    exact g9
  have ha1 := X1 ax 1 I.2.2.1
  have hm1 := X1 am 20 I.2.2.2.1
  have ho1 := X1 ao 33 I.2.2.2.2.1
  have Lx1 := I.lx.keep I.1 T1 X1 F1 (by decide +kernel)
  have Lh1 : zLwt ty1 ∧ (c1.toInt = 0 → (za h1).2.2 = (za h).2.2 + 6 ∧ (za h1).2.1 ((za h).2.2 + 2) = 32) := by
    obtain ⟨⟨rfl, rfl, rfl⟩, X0, S, Y⟩ := I.lx
    obtain ⟨E0, eN, w1, w9⟩ := zL5_of I.2.2.2.2.2.1 I.2.2.2.2.2.2.1 I.2.2.2.2.2.2.2.1 S
    obtain ⟨p0, w0, K0, R0⟩ := I.hd
    have hE0 : E0 ≤ 400 := by have := I.b2; omega
    exact zlaw_new I.1 T1 X0 X1 I.lt K0.2.2.2.2.2.2.2.2.2 (by omega) (cLw_of I.1 X0 S hE0 w1 Y) G1
  have Lt1 := Lh1.1
  refine ⟨_, rfl, ?_⟩
  show z_ok sx d 343 110 lo [.int c1] h1 _
  refine zh_ist zJ_343 (a := 5) (b := 0) (z := 0) rfl (k' := 111) rfl ?_
  refine zh_ald zJ_343 (k' := 112) rfl rfl (Lv.set (b := 5) (v := c1) (by omega)).2.2.1 ?_
  obtain ⟨fs1, he1, -⟩ := zcell0 (c := 9) (n := 23) T1 hm1 rfl rfl rfl
  refine zlrun (as := [.ref am]) (i := (54, 232, 0, 9)) rfl (k' := 113) rfl (by decide) (zcal54 (xs := []) (rest := []) (by omega) rfl rfl he1 rfl (Nat.le_of_ble_eq_true rfl) (M' := z_m232) rfl (Nat.le_of_ble_eq_true rfl)) (z_ok.lenq (by decide +kernel) (sq_232.ok (zTY_kh T1) rfl rfl (zS_232 (sx := sx) (d := d - 1) (by omega) T1 E1 hm1))) (fun o2 h2 x2 y2 q2 l2 => ?_)
  obtain ⟨⟨⟨w2, rfl, rfl, rfl, ⟨c2, rfl⟩, T2, E2, F2, N2⟩, -, G2⟩, hq2⟩ := q2
  have X2 : zExt ty1 ty1 := zExt.rf
  have G2 : p_232 am (za h1) c2 (za h2) := by
    obtain ⟨r9, er9, g9⟩ := G2
    have er9 : r9 = c2 := by cases er9; rfl
    rw [er9] at g9
    exact g9
  have Lx2 := Lx1.keep T1 T2 X2 F2 (by decide +kernel)
  have Lt2 := Lt1.keep T1 T2 X2 hq2
  have Z2 : zHld (za h2) ∧ zLik (za h2) c1 c2 := by
    obtain ⟨⟨rfl, rfl, rfl⟩, X0, S, Y⟩ := I.lx
    obtain ⟨E0, eN, w1, w9⟩ := zL5_of I.2.2.2.2.2.1 I.2.2.2.2.2.2.1 I.2.2.2.2.2.2.2.1 S
    obtain ⟨p0, w0, K0, R0⟩ := I.hd
    have hE0 : E0 ≤ 400 := by have := I.b2; omega
    exact zq_3 w0 K0 R0 (cLw_of I.1 X0 S hE0 w1 Y) (rA_of I.1 X0 S hE0 w9) (S.at (205, 8, 211) (by decide +kernel)) Lh1.2 G1 G2
  have Hd2 := Z2.1
  have GE : ∃ t : Int32, zv h2 am 0 = .int t ∧ t.toInt = c1.toInt ∧ (c1.toInt = 0 → zv h2 ao 0 = .long c2.toInt64) := by
    obtain ⟨⟨rfl, rfl, rfl⟩, -⟩ := I.lx
    exact Z2.2
  refine ⟨_, rfl, ?_⟩
  have I2 : zIw ty1 h2 ax am ao 0 := ⟨T2, E2, X2 ax 1 ha1, X2 am 20 hm1, X2 ao 33 ho1, P1.keep ha1 T2 X2 F2 (zNin _ _ _ (by decide +kernel)) (zNin _ _ _ (by decide +kernel)), N2.mp, by decide, by decide, Lx2, Lt2, Hd2⟩
  show z_ok sx d 343 113 (z_set1 lo 5 (.int c1)) [.int c2] h2 _
  refine zh_ist zJ_343 (a := 6) (b := 0) (z := 0) rfl (k' := 114) rfl ?_
  refine zgoto rfl ?_
  exact K.use I2 ((Lv.set (b := 5) (v := c1) (by omega)).set (b := 6) (v := c2) (by omega)) (by omega) (by omega) (by omega)
set_option maxRecDepth 100000 in
theorem zcs_4 {sx : zX} {d : Nat} {ty : List Nat} {lo : zL} {h : zH} {Ψ : zO → zH → Nat → Nat → Prop} {ax am ao i : Nat} {N : Int} (H : ∀ (c : Nat) (c' : zCt), zCtl[c]? = some c' → zVd z_tt zE1 c') (hd : 60 ≤ d) (hi : i + 6 ≤ sx.1) (hL : sx.1 ≤ 3072) (hB : h.length + 6 ≤ zB) (I : zIw ty h ax am ao N) (Lv : zLv lo ax am ao i) (K : zKc sx d ax am ao i h Ψ) : z_ok sx d 343 115 lo [] h Ψ := by
  refine zh_ald zJ_343 (k' := 116) rfl rfl Lv.2.1 ?_
  obtain ⟨fs0, he0, -⟩ := zcell0 (c := 8) (n := 8) I.1 I.2.2.1 rfl rfl rfl
  refine zlcq (ct := zC105) (as := [.ref ax]) (i := (54, 122, 0, 8)) I.v rfl (k' := 117) rfl (by decide) (zcal54 (xs := []) (rest := []) (by omega) rfl rfl he0 rfl (Nat.le_of_ble_eq_true rfl) (M' := z_m122) rfl (Nat.le_of_ble_eq_true rfl)) (H 105 _ rfl) rfl (by show 0 + 1 ≤ d; omega) rfl (by decide +kernel) (by decide +kernel) (by decide +kernel) ⟨⟨ax, 1, rfl, I.2.2.1, Int.le_refl _, Int.le_refl _⟩, trivial⟩ sq_122 rfl (fun ty1 h1 w1 x1 y1 I1 V1 G1 cx1 cy1 l1 => ?_)
  have cx1 : x1 ≤ 0 := cx1
  have cy1 : y1 ≤ 0 := cy1
  match w1, V1, G1 with
  | some w1, V1, G1 =>
  obtain ⟨c1, rfl, -⟩ := V1
  have G1 : p_122 ax (za h) c1 (za h1) := by
    obtain ⟨r9, er9, g9⟩ := G1
    have er9 : r9 = c1 := by cases er9; rfl
    rw [er9] at g9
    exact g9
  show z_ok sx d 343 117 lo [.int c1] h1 _
  refine zpop rfl (k' := 118) rfl ?_
  refine zh_ald zJ_343 (k' := 119) rfl rfl Lv.2.2.1 ?_
  obtain ⟨fs1, he1, -⟩ := zcell0 (c := 9) (n := 23) I1.1 I1.2.2.2.1 rfl rfl rfl
  refine zlcq (ct := zC179) (as := [.ref am]) (i := (54, 209, 0, 9)) I1 rfl (k' := 120) rfl (by decide) (zcal54 (xs := []) (rest := []) (by omega) rfl rfl he1 rfl (Nat.le_of_ble_eq_true rfl) (M' := z_m209) rfl (Nat.le_of_ble_eq_true rfl)) (H 179 _ rfl) rfl (by show 0 + 1 ≤ d; omega) rfl (by decide +kernel) (by decide +kernel) (by decide +kernel) ⟨⟨am, 20, rfl, I1.2.2.2.1, Int.le_refl _, Int.le_refl _⟩, trivial⟩ sq_209 rfl (fun ty2 h2 w2 x2 y2 I2 V2 G2 cx2 cy2 l2 => ?_)
  have cx2 : x2 ≤ 0 := cx2
  have cy2 : y2 ≤ 0 := cy2
  match w2, V2, G2 with
  | some w2, V2, G2 =>
  obtain ⟨c2, rfl, -⟩ := V2
  have G2 : p_209 am (za h1) c2 (za h2) := by
    obtain ⟨r9, er9, g9⟩ := G2
    have er9 : r9 = c2 := by cases er9; rfl
    rw [er9] at g9
    exact g9
  have Z2 : zHld (za h2) ∧ c1 = c2 := by
    obtain ⟨⟨rfl, rfl, rfl⟩, -⟩ := I.lx
    obtain ⟨p0, w0, K0, R0⟩ := I.hd
    exact zq_4 w0 K0 R0 G1 G2
  have I2 := I2.w Z2.1
  have ec : c1.toInt = c2.toInt := congrArg Int32.toInt Z2.2
  show z_ok sx d 343 120 lo [.int c2] h2 _
  refine zpop rfl (k' := 121) rfl ?_
  refine zgoto rfl ?_
  exact K.use I2 Lv (by omega) (by omega) (by omega)
set_option maxRecDepth 100000 in
theorem zcs_5 {sx : zX} {d : Nat} {ty : List Nat} {lo : zL} {h : zH} {Ψ : zO → zH → Nat → Nat → Prop} {ax am ao i : Nat} {N : Int} (H : ∀ (c : Nat) (c' : zCt), zCtl[c]? = some c' → zVd z_tt zE1 c') (hd : 60 ≤ d) (hi : i + 6 ≤ sx.1) (hL : sx.1 ≤ 3072) (hB : h.length + 6 ≤ zB) (I : zIw ty h ax am ao N) (Lv : zLv lo ax am ao i) (K : zKc sx d ax am ao i h Ψ) : z_ok sx d 343 122 lo [] h Ψ := by
  refine zh_ald zJ_343 (k' := 123) rfl rfl Lv.2.1 ?_
  refine zscr 123 124 125 126 127 128 1 rfl rfl rfl rfl rfl rfl rfl rfl rfl rfl rfl (by omega) Lv hi hL (fun v0 ev0 => ?_)
  refine zh_ald zJ_343 (k' := 129) rfl rfl Lv.2.2.2.1 ?_
  refine zlcq (ct := zC276) (as := [.ref ax, .int v0, .ref ao]) (i := (72, 317, 3, 0)) I.v rfl (k' := 130) rfl (by decide) (zcal72 (xs := [.ref ao, .int v0, .ref ax]) (rest := []) (by omega) rfl rfl (Nat.le_of_ble_eq_true rfl) (M' := z_m317) rfl (Nat.le_of_ble_eq_true rfl)) (H 276 _ rfl) rfl (by show 8 + 1 ≤ d; omega) rfl (by decide +kernel) (by decide +kernel) (by decide +kernel) ⟨⟨ax, 1, rfl, I.2.2.1, Int.le_refl _, Int.le_refl _⟩, zFull_ok _, ⟨ao, 33, rfl, I.2.2.2.2.1, Int.le_refl _, Int.le_refl _⟩, trivial⟩ sq_317 rfl (fun ty1 h1 w1 x1 y1 I1 V1 G1 cx1 cy1 l1 => ?_)
  have cx1 : x1 ≤ 1 := cx1
  have cy1 : y1 ≤ 6 := cy1
  match w1, V1, G1 with
  | some w1, V1, G1 =>
  obtain ⟨c1, rfl, -⟩ := V1
  have G1 : p_317 ax v0 ao (za h) c1 (za h1) := by
    obtain ⟨r9, er9, g9⟩ := G1
    have er9 : r9 = c1 := by cases er9; rfl
    rw [er9] at g9
    exact g9
  show z_ok sx d 343 130 lo [.int c1] h1 _
  refine zh_ist zJ_343 (a := 5) (b := 0) (z := 0) rfl (k' := 131) rfl ?_
  refine zh_ald zJ_343 (k' := 132) rfl rfl (Lv.set (b := 5) (v := c1) (by omega)).2.2.1 ?_
  refine zscr 132 133 134 135 136 137 1 rfl rfl rfl rfl rfl rfl rfl rfl rfl rfl rfl (by omega) (Lv.set (b := 5) (v := c1) (by omega)) hi hL (fun v1 ev1 => ?_)
  obtain ⟨fs1, he1, -⟩ := zcell0 (c := 9) (n := 23) I1.1 I1.2.2.2.1 rfl rfl rfl
  refine zlcq (ct := zC180) (as := [.ref am, .int v1]) (i := (54, 248, 1, 9)) I1 rfl (k' := 138) rfl (by decide) (zcal54 (xs := [.int v1]) (rest := []) (by omega) rfl rfl he1 rfl (Nat.le_of_ble_eq_true rfl) (M' := z_m248) rfl (Nat.le_of_ble_eq_true rfl)) (H 180 _ rfl) rfl (by show 2 + 1 ≤ d; omega) rfl (by decide +kernel) (by decide +kernel) (by decide +kernel) ⟨⟨am, 20, rfl, I1.2.2.2.1, Int.le_refl _, Int.le_refl _⟩, zFull_ok _, trivial⟩ sq_248 rfl (fun ty2 h2 w2 x2 y2 I2 V2 G2 cx2 cy2 l2 => ?_)
  have cx2 : x2 ≤ 0 := cx2
  have cy2 : y2 ≤ 0 := cy2
  match w2, V2, G2 with
  | some w2, V2, G2 =>
  obtain ⟨c2, rfl, -⟩ := V2
  have G2 : p_248 am v1 (za h1) c2 (za h2) := by
    obtain ⟨r9, er9, g9⟩ := G2
    have er9 : r9 = c2 := by cases er9; rfl
    rw [er9] at g9
    exact g9
  have ee0 : v1 = v0 := by rw [ev1, ev0]
  rw [ee0] at G2
  have Z2 : zHld (za h2) ∧ zLik (za h2) c1 c2 := by
    obtain ⟨⟨rfl, rfl, rfl⟩, -⟩ := I.lx
    obtain ⟨p0, w0, K0, R0⟩ := I.hd
    exact zq_5 w0 K0 R0 G1 G2
  have I2 := I2.w Z2.1
  have GE : ∃ t : Int32, zv h2 am 0 = .int t ∧ t.toInt = c1.toInt ∧ (c1.toInt = 0 → zv h2 ao 0 = .long c2.toInt64) := by
    obtain ⟨⟨rfl, rfl, rfl⟩, -⟩ := I.lx
    exact Z2.2
  have zx2 : x2 = 0 := by omega
  have zy2 : y2 = 0 := by omega
  subst zx2
  subst zy2
  show z_ok sx d 343 138 (z_set1 lo 5 (.int c1)) [.int c2] h2 _
  refine zh_ist zJ_343 (a := 6) (b := 0) (z := 0) rfl (k' := 139) rfl ?_
  refine zgoto rfl ?_
  exact K.use I2 ((Lv.set (b := 5) (v := c1) (by omega)).set (b := 6) (v := c2) (by omega)) (by omega) (by omega) (by omega)
set_option maxRecDepth 100000 in
theorem zcs_6 {sx : zX} {d : Nat} {ty : List Nat} {lo : zL} {h : zH} {Ψ : zO → zH → Nat → Nat → Prop} {ax am ao i : Nat} {N : Int} (H : ∀ (c : Nat) (c' : zCt), zCtl[c]? = some c' → zVd z_tt zE1 c') (hd : 60 ≤ d) (hi : i + 6 ≤ sx.1) (hL : sx.1 ≤ 3072) (hB : h.length + 6 ≤ zB) (I : zIw ty h ax am ao N) (Lv : zLv lo ax am ao i) (K : zKc sx d ax am ao i h Ψ) : z_ok sx d 343 140 lo [] h Ψ := by
  refine zh_ald zJ_343 (k' := 141) rfl rfl Lv.2.1 ?_
  refine zscr 141 142 143 144 145 146 1 rfl rfl rfl rfl rfl rfl rfl rfl rfl rfl rfl (by omega) Lv hi hL (fun v0 ev0 => ?_)
  refine zscr 146 147 148 149 150 151 2 rfl rfl rfl rfl rfl rfl rfl rfl rfl rfl rfl (by omega) Lv hi hL (fun v1 ev1 => ?_)
  refine zh_ald zJ_343 (k' := 152) rfl rfl Lv.2.2.2.1 ?_
  refine zlcon (ct := zC277) (as := [.ref ax, .int v0, .int v1, .ref ao]) (i := (72, 318, 4, 0)) I rfl (k' := 153) rfl (by decide) (zcal72 (xs := [.ref ao, .int v1, .int v0, .ref ax]) (rest := []) (by omega) rfl rfl (Nat.le_of_ble_eq_true rfl) (M' := z_m318) rfl (Nat.le_of_ble_eq_true rfl)) (H 277 _ rfl) rfl (by show 8 + 1 ≤ d; omega) rfl (by decide +kernel) (by decide +kernel) (by decide +kernel) (by decide +kernel) ⟨⟨ax, 1, rfl, I.2.2.1, Int.le_refl _, Int.le_refl _⟩, zFull_ok _, zFull_ok _, ⟨ao, 33, rfl, I.2.2.2.2.1, Int.le_refl _, Int.le_refl _⟩, trivial⟩ (fun ty1 h1 w1 x1 y1 I1 V1 cx1 cy1 l1 => ?_)
  have cx1 : x1 ≤ 1 := cx1
  have cy1 : y1 ≤ 6 := cy1
  match w1, V1 with
  | some w1, V1 =>
  obtain ⟨c1, rfl, -⟩ := V1
  show z_ok sx d 343 153 lo [.int c1] h1 _
  refine zh_ist zJ_343 (a := 5) (b := 0) (z := 0) rfl (k' := 154) rfl ?_
  refine zh_ald zJ_343 (k' := 155) rfl rfl (Lv.set (b := 5) (v := c1) (by omega)).2.2.1 ?_
  refine zscr 155 156 157 158 159 160 1 rfl rfl rfl rfl rfl rfl rfl rfl rfl rfl rfl (by omega) (Lv.set (b := 5) (v := c1) (by omega)) hi hL (fun v2 ev2 => ?_)
  refine zscr 160 161 162 163 164 165 2 rfl rfl rfl rfl rfl rfl rfl rfl rfl rfl rfl (by omega) (Lv.set (b := 5) (v := c1) (by omega)) hi hL (fun v3 ev3 => ?_)
  obtain ⟨fs1, he1, -⟩ := zcell0 (c := 9) (n := 23) I1.1 I1.2.2.2.1 rfl rfl rfl
  refine zlcon (ct := zC185) (as := [.ref am, .int v2, .int v3]) (i := (54, 249, 2, 9)) I1 rfl (k' := 166) rfl (by decide) (zcal54 (xs := [.int v3, .int v2]) (rest := []) (by omega) rfl rfl he1 rfl (Nat.le_of_ble_eq_true rfl) (M' := z_m249) rfl (Nat.le_of_ble_eq_true rfl)) (H 185 _ rfl) rfl (by show 7 + 1 ≤ d; omega) rfl (by decide +kernel) (by decide +kernel) (by decide +kernel) (by decide +kernel) ⟨⟨am, 20, rfl, I1.2.2.2.1, Int.le_refl _, Int.le_refl _⟩, zFull_ok _, zFull_ok _, trivial⟩ (fun ty2 h2 w2 x2 y2 I2 V2 cx2 cy2 l2 => ?_)
  have cx2 : x2 ≤ 0 := cx2
  have cy2 : y2 ≤ 0 := cy2
  match w2, V2 with
  | some w2, V2 =>
  obtain ⟨c2, rfl, -⟩ := V2
  show z_ok sx d 343 166 (z_set1 lo 5 (.int c1)) [.int c2] h2 _
  refine zh_ist zJ_343 (a := 6) (b := 0) (z := 0) rfl (k' := 167) rfl ?_
  refine zgoto rfl ?_
  exact K.use I2 ((Lv.set (b := 5) (v := c1) (by omega)).set (b := 6) (v := c2) (by omega)) (by omega) (by omega) (by omega)
set_option maxRecDepth 100000 in
theorem zcs_7 {sx : zX} {d : Nat} {ty : List Nat} {lo : zL} {h : zH} {Ψ : zO → zH → Nat → Nat → Prop} {ax am ao i : Nat} {N : Int} (H : ∀ (c : Nat) (c' : zCt), zCtl[c]? = some c' → zVd z_tt zE1 c') (hd : 60 ≤ d) (hi : i + 6 ≤ sx.1) (hL : sx.1 ≤ 3072) (hB : h.length + 6 ≤ zB) (I : zIw ty h ax am ao N) (Lv : zLv lo ax am ao i) (K : zKc sx d ax am ao i h Ψ) : z_ok sx d 343 168 lo [] h Ψ := by
  refine zh_ald zJ_343 (k' := 169) rfl rfl Lv.2.1 ?_
  refine zscr 169 170 171 172 173 174 1 rfl rfl rfl rfl rfl rfl rfl rfl rfl rfl rfl (by omega) Lv hi hL (fun v0 ev0 => ?_)
  refine zscr 174 175 176 177 178 179 2 rfl rfl rfl rfl rfl rfl rfl rfl rfl rfl rfl (by omega) Lv hi hL (fun v1 ev1 => ?_)
  refine zscr 179 180 181 182 183 184 3 rfl rfl rfl rfl rfl rfl rfl rfl rfl rfl rfl (by omega) Lv hi hL (fun v2 ev2 => ?_)
  refine zh_ald zJ_343 (k' := 185) rfl rfl Lv.2.2.2.1 ?_
  refine zlcq (ct := zC278) (as := [.ref ax, .int v0, .int v1, .int v2, .ref ao]) (i := (72, 319, 5, 0)) I.v rfl (k' := 186) rfl (by decide) (zcal72 (xs := [.ref ao, .int v2, .int v1, .int v0, .ref ax]) (rest := []) (by omega) rfl rfl (Nat.le_of_ble_eq_true rfl) (M' := z_m319) rfl (Nat.le_of_ble_eq_true rfl)) (H 278 _ rfl) rfl (by show 23 + 1 ≤ d; omega) rfl (by decide +kernel) (by decide +kernel) (by decide +kernel) ⟨⟨ax, 1, rfl, I.2.2.1, Int.le_refl _, Int.le_refl _⟩, zFull_ok _, zFull_ok _, zFull_ok _, ⟨ao, 33, rfl, I.2.2.2.2.1, Int.le_refl _, Int.le_refl _⟩, trivial⟩ sq_319 rfl (fun ty1 h1 w1 x1 y1 I1 V1 G1 cx1 cy1 l1 => ?_)
  have cx1 : x1 ≤ 1 := cx1
  have cy1 : y1 ≤ 6 := cy1
  match w1, V1, G1 with
  | some w1, V1, G1 =>
  obtain ⟨c1, rfl, -⟩ := V1
  have G1 : p_319 ax v0 v1 v2 ao (za h) c1 (za h1) := by
    obtain ⟨r9, er9, g9⟩ := G1
    have er9 : r9 = c1 := by cases er9; rfl
    rw [er9] at g9
    exact g9
  show z_ok sx d 343 186 lo [.int c1] h1 _
  refine zh_ist zJ_343 (a := 5) (b := 0) (z := 0) rfl (k' := 187) rfl ?_
  refine zh_ald zJ_343 (k' := 188) rfl rfl (Lv.set (b := 5) (v := c1) (by omega)).2.2.1 ?_
  refine zscr 188 189 190 191 192 193 1 rfl rfl rfl rfl rfl rfl rfl rfl rfl rfl rfl (by omega) (Lv.set (b := 5) (v := c1) (by omega)) hi hL (fun v3 ev3 => ?_)
  refine zscr 193 194 195 196 197 198 2 rfl rfl rfl rfl rfl rfl rfl rfl rfl rfl rfl (by omega) (Lv.set (b := 5) (v := c1) (by omega)) hi hL (fun v4 ev4 => ?_)
  refine zscr 198 199 200 201 202 203 3 rfl rfl rfl rfl rfl rfl rfl rfl rfl rfl rfl (by omega) (Lv.set (b := 5) (v := c1) (by omega)) hi hL (fun v5 ev5 => ?_)
  obtain ⟨fs1, he1, -⟩ := zcell0 (c := 9) (n := 23) I1.1 I1.2.2.2.1 rfl rfl rfl
  refine zlcq (ct := zC258) (as := [.ref am, .int v3, .int v4, .int v5]) (i := (54, 250, 3, 9)) I1 rfl (k' := 204) rfl (by decide) (zcal54 (xs := [.int v5, .int v4, .int v3]) (rest := []) (by omega) rfl rfl he1 rfl (Nat.le_of_ble_eq_true rfl) (M' := z_m250) rfl (Nat.le_of_ble_eq_true rfl)) (H 258 _ rfl) rfl (by show 24 + 1 ≤ d; omega) rfl (by decide +kernel) (by decide +kernel) (by decide +kernel) ⟨⟨am, 20, rfl, I1.2.2.2.1, Int.le_refl _, Int.le_refl _⟩, zFull_ok _, zFull_ok _, zFull_ok _, trivial⟩ sq_250 rfl (fun ty2 h2 w2 x2 y2 I2 V2 G2 cx2 cy2 l2 => ?_)
  have cx2 : x2 ≤ 0 := cx2
  have cy2 : y2 ≤ 0 := cy2
  match w2, V2, G2 with
  | some w2, V2, G2 =>
  obtain ⟨c2, rfl, -⟩ := V2
  have G2 : p_250 am v3 v4 v5 (za h1) c2 (za h2) := by
    obtain ⟨r9, er9, g9⟩ := G2
    have er9 : r9 = c2 := by cases er9; rfl
    rw [er9] at g9
    exact g9
  have ee0 : v3 = v0 := by rw [ev3, ev0]
  have ee1 : v4 = v1 := by rw [ev4, ev1]
  have ee2 : v5 = v2 := by rw [ev5, ev2]
  rw [ee0, ee1, ee2] at G2
  have Z2 : zHld (za h2) ∧ zLik (za h2) c1 c2 := by
    obtain ⟨⟨rfl, rfl, rfl⟩, -⟩ := I.lx
    obtain ⟨p0, w0, K0, R0⟩ := I.hd
    exact zq_7 w0 K0 R0 G1 G2
  have I2 := I2.w Z2.1
  have GE : ∃ t : Int32, zv h2 am 0 = .int t ∧ t.toInt = c1.toInt ∧ (c1.toInt = 0 → zv h2 ao 0 = .long c2.toInt64) := by
    obtain ⟨⟨rfl, rfl, rfl⟩, -⟩ := I.lx
    exact Z2.2
  have zx2 : x2 = 0 := by omega
  have zy2 : y2 = 0 := by omega
  subst zx2
  subst zy2
  show z_ok sx d 343 204 (z_set1 lo 5 (.int c1)) [.int c2] h2 _
  refine zh_ist zJ_343 (a := 6) (b := 0) (z := 0) rfl (k' := 205) rfl ?_
  refine zgoto rfl ?_
  exact K.use I2 ((Lv.set (b := 5) (v := c1) (by omega)).set (b := 6) (v := c2) (by omega)) (by omega) (by omega) (by omega)
set_option maxRecDepth 100000 in
theorem zcs_8 {sx : zX} {d : Nat} {ty : List Nat} {lo : zL} {h : zH} {Ψ : zO → zH → Nat → Nat → Prop} {ax am ao i : Nat} {N : Int} (H : ∀ (c : Nat) (c' : zCt), zCtl[c]? = some c' → zVd z_tt zE1 c') (hd : 60 ≤ d) (hi : i + 6 ≤ sx.1) (hL : sx.1 ≤ 3072) (hB : h.length + 6 ≤ zB) (I : zIw ty h ax am ao N) (Lv : zLv lo ax am ao i) (K : zKc sx d ax am ao i h Ψ) : z_ok sx d 343 206 lo [] h Ψ := by
  refine zh_ald zJ_343 (k' := 207) rfl rfl Lv.2.1 ?_
  refine zscr 207 208 209 210 211 212 1 rfl rfl rfl rfl rfl rfl rfl rfl rfl rfl rfl (by omega) Lv hi hL (fun v0 ev0 => ?_)
  refine zscr 212 213 214 215 216 217 2 rfl rfl rfl rfl rfl rfl rfl rfl rfl rfl rfl (by omega) Lv hi hL (fun v1 ev1 => ?_)
  refine zh_ald zJ_343 (k' := 218) rfl rfl Lv.2.2.2.1 ?_
  refine zlcq (ct := zC279) (as := [.ref ax, .int v0, .int v1, .ref ao]) (i := (72, 320, 4, 0)) I.v rfl (k' := 219) rfl (by decide) (zcal72 (xs := [.ref ao, .int v1, .int v0, .ref ax]) (rest := []) (by omega) rfl rfl (Nat.le_of_ble_eq_true rfl) (M' := z_m320) rfl (Nat.le_of_ble_eq_true rfl)) (H 279 _ rfl) rfl (by show 23 + 1 ≤ d; omega) rfl (by decide +kernel) (by decide +kernel) (by decide +kernel) ⟨⟨ax, 1, rfl, I.2.2.1, Int.le_refl _, Int.le_refl _⟩, zFull_ok _, zFull_ok _, ⟨ao, 33, rfl, I.2.2.2.2.1, Int.le_refl _, Int.le_refl _⟩, trivial⟩ sq_320 rfl (fun ty1 h1 w1 x1 y1 I1 V1 G1 cx1 cy1 l1 => ?_)
  have cx1 : x1 ≤ 1 := cx1
  have cy1 : y1 ≤ 6 := cy1
  match w1, V1, G1 with
  | some w1, V1, G1 =>
  obtain ⟨c1, rfl, -⟩ := V1
  have G1 : p_320 ax v0 v1 ao (za h) c1 (za h1) := by
    obtain ⟨r9, er9, g9⟩ := G1
    have er9 : r9 = c1 := by cases er9; rfl
    rw [er9] at g9
    exact g9
  show z_ok sx d 343 219 lo [.int c1] h1 _
  refine zh_ist zJ_343 (a := 5) (b := 0) (z := 0) rfl (k' := 220) rfl ?_
  refine zh_ald zJ_343 (k' := 221) rfl rfl (Lv.set (b := 5) (v := c1) (by omega)).2.2.1 ?_
  refine zscr 221 222 223 224 225 226 1 rfl rfl rfl rfl rfl rfl rfl rfl rfl rfl rfl (by omega) (Lv.set (b := 5) (v := c1) (by omega)) hi hL (fun v2 ev2 => ?_)
  refine zscr 226 227 228 229 230 231 2 rfl rfl rfl rfl rfl rfl rfl rfl rfl rfl rfl (by omega) (Lv.set (b := 5) (v := c1) (by omega)) hi hL (fun v3 ev3 => ?_)
  obtain ⟨fs1, he1, -⟩ := zcell0 (c := 9) (n := 23) I1.1 I1.2.2.2.1 rfl rfl rfl
  refine zlcq (ct := zC259) (as := [.ref am, .int v2, .int v3]) (i := (54, 251, 2, 9)) I1 rfl (k' := 232) rfl (by decide) (zcal54 (xs := [.int v3, .int v2]) (rest := []) (by omega) rfl rfl he1 rfl (Nat.le_of_ble_eq_true rfl) (M' := z_m251) rfl (Nat.le_of_ble_eq_true rfl)) (H 259 _ rfl) rfl (by show 24 + 1 ≤ d; omega) rfl (by decide +kernel) (by decide +kernel) (by decide +kernel) ⟨⟨am, 20, rfl, I1.2.2.2.1, Int.le_refl _, Int.le_refl _⟩, zFull_ok _, zFull_ok _, trivial⟩ sq_251 rfl (fun ty2 h2 w2 x2 y2 I2 V2 G2 cx2 cy2 l2 => ?_)
  have cx2 : x2 ≤ 0 := cx2
  have cy2 : y2 ≤ 0 := cy2
  match w2, V2, G2 with
  | some w2, V2, G2 =>
  obtain ⟨c2, rfl, -⟩ := V2
  have G2 : p_251 am v2 v3 (za h1) c2 (za h2) := by
    obtain ⟨r9, er9, g9⟩ := G2
    have er9 : r9 = c2 := by cases er9; rfl
    rw [er9] at g9
    exact g9
  have ee0 : v2 = v0 := by rw [ev2, ev0]
  have ee1 : v3 = v1 := by rw [ev3, ev1]
  rw [ee0, ee1] at G2
  have Z2 : zHld (za h2) ∧ zLik (za h2) c1 c2 := by
    obtain ⟨⟨rfl, rfl, rfl⟩, -⟩ := I.lx
    obtain ⟨p0, w0, K0, R0⟩ := I.hd
    exact zq_8 w0 K0 R0 G1 G2
  have I2 := I2.w Z2.1
  have GE : ∃ t : Int32, zv h2 am 0 = .int t ∧ t.toInt = c1.toInt ∧ (c1.toInt = 0 → zv h2 ao 0 = .long c2.toInt64) := by
    obtain ⟨⟨rfl, rfl, rfl⟩, -⟩ := I.lx
    exact Z2.2
  have zx2 : x2 = 0 := by omega
  have zy2 : y2 = 0 := by omega
  subst zx2
  subst zy2
  show z_ok sx d 343 232 (z_set1 lo 5 (.int c1)) [.int c2] h2 _
  refine zh_ist zJ_343 (a := 6) (b := 0) (z := 0) rfl (k' := 233) rfl ?_
  refine zgoto rfl ?_
  exact K.use I2 ((Lv.set (b := 5) (v := c1) (by omega)).set (b := 6) (v := c2) (by omega)) (by omega) (by omega) (by omega)
set_option maxRecDepth 100000 in
theorem zcs_9 {sx : zX} {d : Nat} {ty : List Nat} {lo : zL} {h : zH} {Ψ : zO → zH → Nat → Nat → Prop} {ax am ao i : Nat} {N : Int} (H : ∀ (c : Nat) (c' : zCt), zCtl[c]? = some c' → zVd z_tt zE1 c') (hd : 60 ≤ d) (hi : i + 6 ≤ sx.1) (hL : sx.1 ≤ 3072) (hB : h.length + 6 ≤ zB) (I : zIw ty h ax am ao N) (Lv : zLv lo ax am ao i) (K : zKc sx d ax am ao i h Ψ) : z_ok sx d 343 234 lo [] h Ψ := by
  refine zh_ald zJ_343 (k' := 235) rfl rfl Lv.2.1 ?_
  refine zscr 235 236 237 238 239 240 1 rfl rfl rfl rfl rfl rfl rfl rfl rfl rfl rfl (by omega) Lv hi hL (fun v0 ev0 => ?_)
  refine zscr 240 241 242 243 244 245 2 rfl rfl rfl rfl rfl rfl rfl rfl rfl rfl rfl (by omega) Lv hi hL (fun v1 ev1 => ?_)
  refine zh_ald zJ_343 (k' := 246) rfl rfl Lv.2.2.2.1 ?_
  refine zlcq (ct := zC280) (as := [.ref ax, .int v0, .int v1, .ref ao]) (i := (72, 321, 4, 0)) I.v rfl (k' := 247) rfl (by decide) (zcal72 (xs := [.ref ao, .int v1, .int v0, .ref ax]) (rest := []) (by omega) rfl rfl (Nat.le_of_ble_eq_true rfl) (M' := z_m321) rfl (Nat.le_of_ble_eq_true rfl)) (H 280 _ rfl) rfl (by show 10 + 1 ≤ d; omega) rfl (by decide +kernel) (by decide +kernel) (by decide +kernel) ⟨⟨ax, 1, rfl, I.2.2.1, Int.le_refl _, Int.le_refl _⟩, zFull_ok _, zFull_ok _, ⟨ao, 33, rfl, I.2.2.2.2.1, Int.le_refl _, Int.le_refl _⟩, trivial⟩ sq_321 rfl (fun ty1 h1 w1 x1 y1 I1 V1 G1 cx1 cy1 l1 => ?_)
  have cx1 : x1 ≤ 1 := cx1
  have cy1 : y1 ≤ 6 := cy1
  match w1, V1, G1 with
  | some w1, V1, G1 =>
  obtain ⟨c1, rfl, -⟩ := V1
  have G1 : p_321 ax v0 v1 ao (za h) c1 (za h1) := by
    obtain ⟨r9, er9, g9⟩ := G1
    have er9 : r9 = c1 := by cases er9; rfl
    rw [er9] at g9
    exact g9
  show z_ok sx d 343 247 lo [.int c1] h1 _
  refine zh_ist zJ_343 (a := 5) (b := 0) (z := 0) rfl (k' := 248) rfl ?_
  refine zh_ald zJ_343 (k' := 249) rfl rfl (Lv.set (b := 5) (v := c1) (by omega)).2.2.1 ?_
  refine zscr 249 250 251 252 253 254 1 rfl rfl rfl rfl rfl rfl rfl rfl rfl rfl rfl (by omega) (Lv.set (b := 5) (v := c1) (by omega)) hi hL (fun v2 ev2 => ?_)
  refine zscr 254 255 256 257 258 259 2 rfl rfl rfl rfl rfl rfl rfl rfl rfl rfl rfl (by omega) (Lv.set (b := 5) (v := c1) (by omega)) hi hL (fun v3 ev3 => ?_)
  obtain ⟨fs1, he1, -⟩ := zcell0 (c := 9) (n := 23) I1.1 I1.2.2.2.1 rfl rfl rfl
  refine zlcq (ct := zC186) (as := [.ref am, .int v2, .int v3]) (i := (54, 252, 2, 9)) I1 rfl (k' := 260) rfl (by decide) (zcal54 (xs := [.int v3, .int v2]) (rest := []) (by omega) rfl rfl he1 rfl (Nat.le_of_ble_eq_true rfl) (M' := z_m252) rfl (Nat.le_of_ble_eq_true rfl)) (H 186 _ rfl) rfl (by show 6 + 1 ≤ d; omega) rfl (by decide +kernel) (by decide +kernel) (by decide +kernel) ⟨⟨am, 20, rfl, I1.2.2.2.1, Int.le_refl _, Int.le_refl _⟩, zFull_ok _, zFull_ok _, trivial⟩ sq_252 rfl (fun ty2 h2 w2 x2 y2 I2 V2 G2 cx2 cy2 l2 => ?_)
  have cx2 : x2 ≤ 0 := cx2
  have cy2 : y2 ≤ 0 := cy2
  match w2, V2, G2 with
  | some w2, V2, G2 =>
  obtain ⟨c2, rfl, -⟩ := V2
  have G2 : p_252 am v2 v3 (za h1) c2 (za h2) := by
    obtain ⟨r9, er9, g9⟩ := G2
    have er9 : r9 = c2 := by cases er9; rfl
    rw [er9] at g9
    exact g9
  have ee0 : v2 = v0 := by rw [ev2, ev0]
  have ee1 : v3 = v1 := by rw [ev3, ev1]
  rw [ee0, ee1] at G2
  have Z2 : zHld (za h2) ∧ zLik (za h2) c1 c2 := by
    obtain ⟨⟨rfl, rfl, rfl⟩, -⟩ := I.lx
    obtain ⟨p0, w0, K0, R0⟩ := I.hd
    exact zq_9 w0 K0 R0 G1 G2
  have I2 := I2.w Z2.1
  have GE : ∃ t : Int32, zv h2 am 0 = .int t ∧ t.toInt = c1.toInt ∧ (c1.toInt = 0 → zv h2 ao 0 = .long c2.toInt64) := by
    obtain ⟨⟨rfl, rfl, rfl⟩, -⟩ := I.lx
    exact Z2.2
  have zx2 : x2 = 0 := by omega
  have zy2 : y2 = 0 := by omega
  subst zx2
  subst zy2
  show z_ok sx d 343 260 (z_set1 lo 5 (.int c1)) [.int c2] h2 _
  refine zh_ist zJ_343 (a := 6) (b := 0) (z := 0) rfl (k' := 261) rfl ?_
  refine zgoto rfl ?_
  exact K.use I2 ((Lv.set (b := 5) (v := c1) (by omega)).set (b := 6) (v := c2) (by omega)) (by omega) (by omega) (by omega)
set_option maxRecDepth 100000 in
theorem zcs_10 {sx : zX} {d : Nat} {ty : List Nat} {lo : zL} {h : zH} {Ψ : zO → zH → Nat → Nat → Prop} {ax am ao i : Nat} {N : Int} (H : ∀ (c : Nat) (c' : zCt), zCtl[c]? = some c' → zVd z_tt zE1 c') (hd : 60 ≤ d) (hi : i + 6 ≤ sx.1) (hL : sx.1 ≤ 3072) (hB : h.length + 6 ≤ zB) (I : zIw ty h ax am ao N) (Lv : zLv lo ax am ao i) (K : zKc sx d ax am ao i h Ψ) : z_ok sx d 343 262 lo [] h Ψ := by
  refine zh_ald zJ_343 (k' := 263) rfl rfl Lv.2.1 ?_
  refine zscr 263 264 265 266 267 268 1 rfl rfl rfl rfl rfl rfl rfl rfl rfl rfl rfl (by omega) Lv hi hL (fun v0 ev0 => ?_)
  refine zscr 268 269 270 271 272 273 2 rfl rfl rfl rfl rfl rfl rfl rfl rfl rfl rfl (by omega) Lv hi hL (fun v1 ev1 => ?_)
  refine zh_ald zJ_343 (k' := 274) rfl rfl Lv.2.2.2.1 ?_
  refine zlcq (ct := zC281) (as := [.ref ax, .int v0, .int v1, .ref ao]) (i := (72, 322, 4, 0)) I.v rfl (k' := 275) rfl (by decide) (zcal72 (xs := [.ref ao, .int v1, .int v0, .ref ax]) (rest := []) (by omega) rfl rfl (Nat.le_of_ble_eq_true rfl) (M' := z_m322) rfl (Nat.le_of_ble_eq_true rfl)) (H 281 _ rfl) rfl (by show 10 + 1 ≤ d; omega) rfl (by decide +kernel) (by decide +kernel) (by decide +kernel) ⟨⟨ax, 1, rfl, I.2.2.1, Int.le_refl _, Int.le_refl _⟩, zFull_ok _, zFull_ok _, ⟨ao, 33, rfl, I.2.2.2.2.1, Int.le_refl _, Int.le_refl _⟩, trivial⟩ sq_322 rfl (fun ty1 h1 w1 x1 y1 I1 V1 G1 cx1 cy1 l1 => ?_)
  have cx1 : x1 ≤ 1 := cx1
  have cy1 : y1 ≤ 6 := cy1
  match w1, V1, G1 with
  | some w1, V1, G1 =>
  obtain ⟨c1, rfl, -⟩ := V1
  have G1 : p_322 ax v0 v1 ao (za h) c1 (za h1) := by
    obtain ⟨r9, er9, g9⟩ := G1
    have er9 : r9 = c1 := by cases er9; rfl
    rw [er9] at g9
    exact g9
  show z_ok sx d 343 275 lo [.int c1] h1 _
  refine zh_ist zJ_343 (a := 5) (b := 0) (z := 0) rfl (k' := 276) rfl ?_
  refine zh_ald zJ_343 (k' := 277) rfl rfl (Lv.set (b := 5) (v := c1) (by omega)).2.2.1 ?_
  refine zscr 277 278 279 280 281 282 1 rfl rfl rfl rfl rfl rfl rfl rfl rfl rfl rfl (by omega) (Lv.set (b := 5) (v := c1) (by omega)) hi hL (fun v2 ev2 => ?_)
  refine zscr 282 283 284 285 286 287 2 rfl rfl rfl rfl rfl rfl rfl rfl rfl rfl rfl (by omega) (Lv.set (b := 5) (v := c1) (by omega)) hi hL (fun v3 ev3 => ?_)
  obtain ⟨fs1, he1, -⟩ := zcell0 (c := 9) (n := 23) I1.1 I1.2.2.2.1 rfl rfl rfl
  refine zlcq (ct := zC187) (as := [.ref am, .int v2, .int v3]) (i := (54, 253, 2, 9)) I1 rfl (k' := 288) rfl (by decide) (zcal54 (xs := [.int v3, .int v2]) (rest := []) (by omega) rfl rfl he1 rfl (Nat.le_of_ble_eq_true rfl) (M' := z_m253) rfl (Nat.le_of_ble_eq_true rfl)) (H 187 _ rfl) rfl (by show 2 + 1 ≤ d; omega) rfl (by decide +kernel) (by decide +kernel) (by decide +kernel) ⟨⟨am, 20, rfl, I1.2.2.2.1, Int.le_refl _, Int.le_refl _⟩, zFull_ok _, zFull_ok _, trivial⟩ sq_253 rfl (fun ty2 h2 w2 x2 y2 I2 V2 G2 cx2 cy2 l2 => ?_)
  have cx2 : x2 ≤ 0 := cx2
  have cy2 : y2 ≤ 0 := cy2
  match w2, V2, G2 with
  | some w2, V2, G2 =>
  obtain ⟨c2, rfl, -⟩ := V2
  have G2 : p_253 am v2 v3 (za h1) c2 (za h2) := by
    obtain ⟨r9, er9, g9⟩ := G2
    have er9 : r9 = c2 := by cases er9; rfl
    rw [er9] at g9
    exact g9
  have ee0 : v2 = v0 := by rw [ev2, ev0]
  have ee1 : v3 = v1 := by rw [ev3, ev1]
  rw [ee0, ee1] at G2
  have Z2 : zHld (za h2) ∧ zLik (za h2) c1 c2 := by
    obtain ⟨⟨rfl, rfl, rfl⟩, -⟩ := I.lx
    obtain ⟨p0, w0, K0, R0⟩ := I.hd
    exact zq_10 w0 K0 R0 G1 G2
  have I2 := I2.w Z2.1
  have GE : ∃ t : Int32, zv h2 am 0 = .int t ∧ t.toInt = c1.toInt ∧ (c1.toInt = 0 → zv h2 ao 0 = .long c2.toInt64) := by
    obtain ⟨⟨rfl, rfl, rfl⟩, -⟩ := I.lx
    exact Z2.2
  have zx2 : x2 = 0 := by omega
  have zy2 : y2 = 0 := by omega
  subst zx2
  subst zy2
  show z_ok sx d 343 288 (z_set1 lo 5 (.int c1)) [.int c2] h2 _
  refine zh_ist zJ_343 (a := 6) (b := 0) (z := 0) rfl (k' := 289) rfl ?_
  refine zgoto rfl ?_
  exact K.use I2 ((Lv.set (b := 5) (v := c1) (by omega)).set (b := 6) (v := c2) (by omega)) (by omega) (by omega) (by omega)
set_option maxRecDepth 100000 in
theorem zcs_11 {sx : zX} {d : Nat} {ty : List Nat} {lo : zL} {h : zH} {Ψ : zO → zH → Nat → Nat → Prop} {ax am ao i : Nat} {N : Int} (H : ∀ (c : Nat) (c' : zCt), zCtl[c]? = some c' → zVd z_tt zE1 c') (hd : 60 ≤ d) (hi : i + 6 ≤ sx.1) (hL : sx.1 ≤ 3072) (hB : h.length + 6 ≤ zB) (I : zIw ty h ax am ao N) (Lv : zLv lo ax am ao i) (K : zKc sx d ax am ao i h Ψ) : z_ok sx d 343 290 lo [] h Ψ := by
  refine zh_ald zJ_343 (k' := 291) rfl rfl Lv.2.1 ?_
  refine zscr 291 292 293 294 295 296 1 rfl rfl rfl rfl rfl rfl rfl rfl rfl rfl rfl (by omega) Lv hi hL (fun v0 ev0 => ?_)
  refine zscr 296 297 298 299 300 301 2 rfl rfl rfl rfl rfl rfl rfl rfl rfl rfl rfl (by omega) Lv hi hL (fun v1 ev1 => ?_)
  refine zh_ald zJ_343 (k' := 302) rfl rfl Lv.2.2.2.1 ?_
  refine zlcq (ct := zC282) (as := [.ref ax, .int v0, .int v1, .ref ao]) (i := (72, 323, 4, 0)) I.v rfl (k' := 303) rfl (by decide) (zcal72 (xs := [.ref ao, .int v1, .int v0, .ref ax]) (rest := []) (by omega) rfl rfl (Nat.le_of_ble_eq_true rfl) (M' := z_m323) rfl (Nat.le_of_ble_eq_true rfl)) (H 282 _ rfl) rfl (by show 10 + 1 ≤ d; omega) rfl (by decide +kernel) (by decide +kernel) (by decide +kernel) ⟨⟨ax, 1, rfl, I.2.2.1, Int.le_refl _, Int.le_refl _⟩, zFull_ok _, zFull_ok _, ⟨ao, 33, rfl, I.2.2.2.2.1, Int.le_refl _, Int.le_refl _⟩, trivial⟩ sq_323 rfl (fun ty1 h1 w1 x1 y1 I1 V1 G1 cx1 cy1 l1 => ?_)
  have cx1 : x1 ≤ 1 := cx1
  have cy1 : y1 ≤ 6 := cy1
  match w1, V1, G1 with
  | some w1, V1, G1 =>
  obtain ⟨c1, rfl, -⟩ := V1
  have G1 : p_323 ax v0 v1 ao (za h) c1 (za h1) := by
    obtain ⟨r9, er9, g9⟩ := G1
    have er9 : r9 = c1 := by cases er9; rfl
    rw [er9] at g9
    exact g9
  show z_ok sx d 343 303 lo [.int c1] h1 _
  refine zh_ist zJ_343 (a := 5) (b := 0) (z := 0) rfl (k' := 304) rfl ?_
  refine zh_ald zJ_343 (k' := 305) rfl rfl (Lv.set (b := 5) (v := c1) (by omega)).2.2.1 ?_
  refine zscr 305 306 307 308 309 310 1 rfl rfl rfl rfl rfl rfl rfl rfl rfl rfl rfl (by omega) (Lv.set (b := 5) (v := c1) (by omega)) hi hL (fun v2 ev2 => ?_)
  refine zscr 310 311 312 313 314 315 2 rfl rfl rfl rfl rfl rfl rfl rfl rfl rfl rfl (by omega) (Lv.set (b := 5) (v := c1) (by omega)) hi hL (fun v3 ev3 => ?_)
  obtain ⟨fs1, he1, -⟩ := zcell0 (c := 9) (n := 23) I1.1 I1.2.2.2.1 rfl rfl rfl
  refine zlcq (ct := zC188) (as := [.ref am, .int v2, .int v3]) (i := (54, 255, 2, 9)) I1 rfl (k' := 316) rfl (by decide) (zcal54 (xs := [.int v3, .int v2]) (rest := []) (by omega) rfl rfl he1 rfl (Nat.le_of_ble_eq_true rfl) (M' := z_m255) rfl (Nat.le_of_ble_eq_true rfl)) (H 188 _ rfl) rfl (by show 2 + 1 ≤ d; omega) rfl (by decide +kernel) (by decide +kernel) (by decide +kernel) ⟨⟨am, 20, rfl, I1.2.2.2.1, Int.le_refl _, Int.le_refl _⟩, zFull_ok _, zFull_ok _, trivial⟩ sq_255 rfl (fun ty2 h2 w2 x2 y2 I2 V2 G2 cx2 cy2 l2 => ?_)
  have cx2 : x2 ≤ 0 := cx2
  have cy2 : y2 ≤ 0 := cy2
  match w2, V2, G2 with
  | some w2, V2, G2 =>
  obtain ⟨c2, rfl, -⟩ := V2
  have G2 : p_255 am v2 v3 (za h1) c2 (za h2) := by
    obtain ⟨r9, er9, g9⟩ := G2
    have er9 : r9 = c2 := by cases er9; rfl
    rw [er9] at g9
    exact g9
  have ee0 : v2 = v0 := by rw [ev2, ev0]
  have ee1 : v3 = v1 := by rw [ev3, ev1]
  rw [ee0, ee1] at G2
  have Z2 : zHld (za h2) ∧ zLik (za h2) c1 c2 := by
    obtain ⟨⟨rfl, rfl, rfl⟩, -⟩ := I.lx
    obtain ⟨p0, w0, K0, R0⟩ := I.hd
    exact zq_11 w0 K0 R0 G1 G2
  have I2 := I2.w Z2.1
  have GE : ∃ t : Int32, zv h2 am 0 = .int t ∧ t.toInt = c1.toInt ∧ (c1.toInt = 0 → zv h2 ao 0 = .long c2.toInt64) := by
    obtain ⟨⟨rfl, rfl, rfl⟩, -⟩ := I.lx
    exact Z2.2
  have zx2 : x2 = 0 := by omega
  have zy2 : y2 = 0 := by omega
  subst zx2
  subst zy2
  show z_ok sx d 343 316 (z_set1 lo 5 (.int c1)) [.int c2] h2 _
  refine zh_ist zJ_343 (a := 6) (b := 0) (z := 0) rfl (k' := 317) rfl ?_
  refine zh_ald zJ_343 (k' := 318) rfl rfl ((Lv.set (b := 5) (v := c1) (by omega)).set (b := 6) (v := c2) (by omega)).2.2.1 ?_
  obtain ⟨fs9, he9, hn9⟩ := zcell0 (c := 9) (n := 23) I2.1 I2.2.2.2.1 rfl rfl rfl
  obtain ⟨t9, et9, ec9, el9⟩ := GE
  have ft9 : fs9[0]? = some (.int t9) := by
    rw [zv_at he9] at et9
    have e9 : z_rd (.inr (9, fs9)) 0 = fs9[0]? := rfl
    rw [e9, List.getElem?_eq_getElem (by omega)] at et9
    rw [List.getElem?_eq_getElem (by omega)]
    exact congrArg some et9
  refine zlrun (as := [.ref am]) (i := (54, 344, 0, 9)) rfl (k' := 319) rfl (by decide) (zcal54 (xs := []) (rest := []) (by omega) rfl rfl he9 rfl (Nat.le_of_ble_eq_true rfl) (M' := z_m344) rfl (Nat.le_of_ble_eq_true rfl)) (zthr he9 ft9) (fun o3 h3 x3 y3 q3 l3 => ?_)
  obtain ⟨rfl, e3, rfl, rfl⟩ := q3
  have e3 := e3.symm
  subst e3
  refine ⟨_, rfl, ?_⟩
  show z_ok sx d 343 319 (z_set1 (z_set1 lo 5 (.int c1)) 6 (.int c2)) [.int t9] h2 _
  refine zh_ild zJ_343 (a := 5) (b := 0) (z := 0) rfl (k' := 320) rfl (zget_set1_ne zget_self (by omega) rfl) ?_
  refine zh_icmp zJ_343 (a := 323) (b := 0) (z := 0) rfl (fun _ => ?_) (fun hc => absurd (zcmp_eq.mpr ec9) hc)
  refine zh_ild zJ_343 (a := 5) (b := 0) (z := 0) rfl (k' := 324) rfl (zget_set1_ne zget_self (by omega) rfl) ?_
  refine zh_if zJ_343 (a := 334) (b := 1) (z := 0) rfl (fun _ => ?_) (fun hc => ?_)
  · refine zgoto rfl ?_
    exact z_ok.imp (K _ _ h2 _ x1 y1 I2 ((Lv.set (b := 5) (v := c1) (by omega)).set (b := 6) (v := c2) (by omega)) (by omega) (by omega) (by omega)) (fun o h9 a b q => q)
  · have c0 : c1.toInt = 0 := Decidable.byContradiction (fun e => hc (zcmp_ne.mpr e))
    obtain ⟨f9, hf9⟩ := zcell3 (n := 1) I2.1 I2.2.2.2.2.1 rfl rfl
    have v9 : f9 0 = c2.toInt64 := by
      have := el9 c0
      rw [zv_at hf9, z_rd2, if_pos (by decide)] at this
      exact Value.long.inj this
    refine zh_ald zJ_343 (a := 3) (b := 0) (z := 0) rfl (k' := 326) rfl ((Lv.set (b := 5) (v := c1) (by omega)).set (b := 6) (v := c2) (by omega)).2.2.2.1 ?_
    refine zh zJ_343 (i := (0, 0, 0, 0)) rfl rfl (k' := 327) (lo' := (z_set1 (z_set1 lo 5 (.int c1)) 6 (.int c2))) (st' := [.int (Int32.ofInt 0), .ref ao]) (h' := h2) rfl ?_
    refine zh zJ_343 (i := (34, 0, 0, 0)) rfl rfl (k' := 328) (lo' := (z_set1 (z_set1 lo 5 (.int c1)) 6 (.int c2))) (st' := [.long (f9 0)]) (h' := h2) (by
      show zo_lald sx d 0 0 0 327 _ [.int (Int32.ofInt 0), .ref ao] h2 = _
      unfold zo_lald
      dsimp only
      rw [hf9]
      exact if_pos rfl) ?_
    refine zh_ild zJ_343 (a := 6) (b := 0) (z := 0) rfl (k' := 329) rfl zget_self ?_
    refine zh zJ_343 (i := (19, 0, 0, 0)) rfl rfl (k' := 330) (lo' := (z_set1 (z_set1 lo 5 (.int c1)) 6 (.int c2))) (st' := [.long c2.toInt64, .long (f9 0)]) (h' := h2) rfl ?_
    refine zh zJ_343 (i := (26, 0, 0, 0)) rfl rfl (k' := 331) (lo' := (z_set1 (z_set1 lo 5 (.int c1)) 6 (.int c2))) (st' := [.int (lg_cmp (f9 0) c2.toInt64)]) (h' := h2) rfl ?_
    refine zh_if zJ_343 (a := 334) (b := 0) (z := 0) rfl (fun _ => ?_) (fun hc => absurd (by rw [v9]; exact zlg_self _) hc)
    refine zgoto rfl ?_
    exact z_ok.imp (K _ _ h2 _ x1 y1 I2 ((Lv.set (b := 5) (v := c1) (by omega)).set (b := 6) (v := c2) (by omega)) (by omega) (by omega) (by omega)) (fun o h9 a b q => q)
