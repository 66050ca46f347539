/-! image and back of both sides: whether there is an image; printed with wip/gen/gen_kept.py -/
set_option maxRecDepth 100000 in
theorem zS_180 {sx : zX} {ty : List Nat} {a d : Nat} {h : zH} (T : zTY z_tt ty h) (E : zE1 ty h) (ha : ty[a]? = some 20) : z_ok sx d 180 0 (lv_args 0 [.ref a]) [] h (zRq (fun v h' => v = none ∧ zTY z_tt ty h' ∧ zE1 ty h' ∧ zFm (zcM zC28) ty h h' ∧ ∃ fs : List Value, h'[a]? = some (.inr (9, fs)) ∧ fs[6]? = some (.int 1))) := by
  show z_ok sx d 180 0 [(0, .ref a)] [] h _
  obtain ⟨fs, he, hl⟩ := zcell0 (c := 9) (n := 23) T ha rfl rfl rfl
  refine zh zJ_180 (i := (2, 0, 0, 0)) rfl rfl (k' := 1) (lo' := [(0, .ref a)]) (st' := [.ref a]) (h' := h) rfl ?_
  refine zh zJ_180 (i := (0, 0, 0, 0)) rfl rfl (k' := 2) (lo' := [(0, .ref a)]) (st' := [.int (Int32.ofInt (0)), .ref a]) (h' := h) rfl ?_
  obtain ⟨T1, F1⟩ := zwf' (ms := zcM zC28) (b := 0) T ha he (by omega) (zK0 (n := 0) (by decide) (by decide)) (by decide +kernel) (by decide +kernel)
  have he1 := zset_eq (e := .inr (9, fs.set 0 (.int (Int32.ofInt (0))))) he
  have hl1 : (fs.set 0 (.int (Int32.ofInt (0)))).length = 23 := by rw [List.length_set]; exact hl
  refine zh_put zJ_180 (b := 0) (c := 9) (z := 0) rfl (k' := 3) rfl he (by omega) rfl ?_
  generalize fs.set 0 (.int (Int32.ofInt (0))) = gs at T1 F1 he1 hl1 ⊢
  generalize h.set a (.inr (9, gs)) = h1 at T1 F1 he1 ⊢
  refine zh zJ_180 (i := (0, 0, 0, 0)) rfl rfl (k' := 4) (lo' := [(0, .ref a)]) (st' := [.int (Int32.ofInt (0))]) (h' := h1) rfl ?_
  refine zh zJ_180 (i := (4, 1, 0, 0)) rfl rfl (k' := 5) (lo' := [(1, .int (Int32.ofInt (0))), (0, .ref a)]) (st' := []) (h' := h1) rfl ?_
  obtain ⟨w1, g1, hw1⟩ := zfd2 (b := 1) (u := 21) T1 ha he1 (by omega) (by decide +kernel)
  obtain ⟨w2, g2, hw2⟩ := zfd2 (b := 2) (u := 22) T1 ha he1 (by omega) (by decide +kernel)
  obtain ⟨f1, hf1⟩ := zcell1 (n := 2086) T1 hw1 rfl rfl
  obtain ⟨g, hg⟩ := zcell1 (n := 1237) T1 hw2 rfl rfl
  refine zLp_180 ha hw1 hw2 g1 g2 (ms := zcM zC28) (by decide +kernel) (fun x h2 q => ?_) ⟨T1, F1, he1, hf1, g, hg, fun k hk => absurd hk (by omega)⟩
  obtain ⟨T2, F2, he2, hs2, g9, hd2, hcp⟩ := q
  refine zh zJ_180 (i := (2, 0, 0, 0)) rfl rfl (k' := 19) (lo' := [(1, .int x), (0, .ref a)]) (st' := [.ref a]) (h' := h2) rfl ?_
  refine zh zJ_180 (i := (0, 0, 0, 1)) rfl rfl (k' := 20) (lo' := [(1, .int x), (0, .ref a)]) (st' := [.int (Int32.ofInt (1)), .ref a]) (h' := h2) rfl ?_
  obtain ⟨T3, F3⟩ := zwf' (ms := zcM zC28) (b := 6) T2 ha he2 (by omega) (zK0 (n := 1) (by decide) (by decide)) (by decide +kernel) (by decide +kernel)
  have he3 := zset_eq (e := .inr (9, gs.set 6 (.int (Int32.ofInt (1))))) he2
  have hl3 : (gs.set 6 (.int (Int32.ofInt (1)))).length = 23 := by rw [List.length_set]; exact hl1
  refine zh_put zJ_180 (b := 6) (c := 9) (z := 1) rfl (k' := 21) rfl he2 (by omega) rfl ?_
  have hd3 := (zset_ne (h := h2) (e := .inr (9, gs.set 6 (.int (Int32.ofInt (1))))) (show a ≠ w2 from fun e => by rw [e, hw2] at ha; cases ha)).trans hd2
  have hs3 := (zset_ne (h := h2) (e := .inr (9, gs.set 6 (.int (Int32.ofInt (1))))) (show a ≠ w1 from fun e => by rw [e, hw1] at ha; cases ha)).trans hs2
  have g36 : (gs.set 6 (.int (Int32.ofInt (1))))[6]? = some (.int 1) := List.getElem?_set_self (by omega)
  generalize gs.set 6 (.int (Int32.ofInt (1))) = gs3 at T3 F3 he3 hl3 hd3 hs3 g36 ⊢
  generalize h2.set a (.inr (9, gs3)) = h3 at T3 F3 he3 hd3 hs3 ⊢
  refine zh_vret zJ_180 (a := 0) (b := 0) (z := 0) rfl ?_
  have F := F2.tr zExt.rf F3
  have L1 : zLT f1 := zEt_keep T T3 F hw1 (Or.inl rfl) hs3 (fun i h1 h2 => znt_ok (by decide +kernel) h1 h2) E.2
  refine ⟨_, rfl, rfl, rfl, rfl, T3, ⟨E.1, fun b t n f hb hz hbf => ?_⟩, F, _, he3, g36⟩
  rcases hz with rfl | rfl | rfl
  · exact zEt_keep T T3 F hb (Or.inl rfl) hbf (fun i h1 h2 => znt_ok (by decide +kernel) h1 h2) E.2
  · have e := E.1 b w2 22 (by omega) (by omega) hb hw2
    subst e
    rw [hd3] at hbf
    cases hbf
    exact zLT_congr (fun k k1 k2 => by have := hcp k (by omega); rw [Nat.zero_add] at this; exact this) L1
  · exact zEt_keep T T3 F hb (Or.inr (Or.inr rfl)) hbf (fun i h1 h2 => znt_ok (by decide +kernel) h1 h2) E.2
set_option maxRecDepth 100000 in
theorem zS_181 {sx : zX} {ty : List Nat} {a d : Nat} {h : zH} {x6 : Int32} (T : zTY z_tt ty h) (E : zE1 ty h) (ha : ty[a]? = some 20) (hx6 : ∀ fs : List Value, h[a]? = some (.inr (9, fs)) → fs[6]? = some (.int x6)) : z_ok sx d 181 0 (lv_args 0 [.ref a]) [] h (zRq (fun v h' => ∃ c : Int32, v = some (.int c) ∧ c.toInt = x6.toInt ∧ zTY z_tt ty h' ∧ zE1 ty h' ∧ zFm (zcM zC29) ty h h')) := by
  show z_ok sx d 181 0 [(0, .ref a)] [] h _
  obtain ⟨fs, he, hl⟩ := zcell0 (c := 9) (n := 23) T ha rfl rfl rfl
  refine zh zJ_181 (i := (2, 0, 0, 0)) rfl rfl (k' := 1) (lo' := [(0, .ref a)]) (st' := [.ref a]) (h' := h) rfl ?_
  refine zh zJ_181 (i := (0, 0, 0, 0)) rfl rfl (k' := 2) (lo' := [(0, .ref a)]) (st' := [.int (Int32.ofInt (0)), .ref a]) (h' := h) rfl ?_
  have zF0 := (zwf' (ms := [(20, 0, 0)]) (b := 0) T ha he (by omega) (zK0 (n := 0) (by decide) (by decide)) (by decide +kernel) (by decide +kernel)).2
  obtain ⟨T1, F1⟩ := zwf' (ms := zcM zC29) (b := 0) T ha he (by omega) (zK0 (n := 0) (by decide) (by decide)) (by decide +kernel) (by decide +kernel)
  have he1 := zset_eq (e := .inr (9, fs.set 0 (.int (Int32.ofInt (0))))) he
  have hl1 : (fs.set 0 (.int (Int32.ofInt (0)))).length = 23 := by rw [List.length_set]; exact hl
  refine zh_put zJ_181 (b := 0) (c := 9) (z := 0) rfl (k' := 3) rfl he (by omega) rfl ?_
  have g6x : (fs.set 0 (.int (Int32.ofInt (0))))[6]? = some (.int x6) := (List.getElem?_set_ne (by decide)).trans (hx6 fs he)
  generalize fs.set 0 (.int (Int32.ofInt (0))) = gs at T1 F1 zF0 he1 hl1 g6x ⊢
  generalize h.set a (.inr (9, gs)) = h1 at T1 F1 zF0 he1 ⊢
  obtain ⟨b6, g6, b61, b62⟩ := zfd0 (b := 6) (lo := 0) (hi := 1) T1 ha he1 (by omega) (by decide +kernel)
  rw [g6x] at g6
  cases g6
  have F10 : zFm [(20, 0, 0)] ty h h1 := zF0
  have E1 : zE1 ty h1 := zE1_stable (by decide +kernel) ty h h1 T T1 (T.len T1) F10 E
  have hret : ∀ (v : Int32) (h' : zH), zTY z_tt ty h' → zE1 ty h' → zFm (zcM zC29) ty h h' → v.toInt = x6.toInt → zRq (fun v h' => ∃ c : Int32, v = some (.int c) ∧ c.toInt = x6.toInt ∧ zTY z_tt ty h' ∧ zE1 ty h' ∧ zFm (zcM zC29) ty h h') (.inl (some (.int v))) h' 0 0 := fun v h' T' E' F' v1 => ⟨_, rfl, rfl, rfl, v, rfl, v1, T', E', F'⟩
  refine zh zJ_181 (i := (2, 0, 0, 0)) rfl rfl (k' := 4) (lo' := [(0, .ref a)]) (st' := [.ref a]) (h' := h1) rfl ?_
  refine zh_get zJ_181 (a := a) (b := 6) (c := 9) (z := 0) rfl (k' := 5) rfl he1 g6x ?_
  refine zh_if zJ_181 (a := 8) (b := 1) (z := 0) rfl (fun hc => ?_) (fun hc => ?_)
  · refine zh zJ_181 (i := (0, 0, 0, 0)) rfl rfl (k' := 9) (lo' := [(0, .ref a)]) (st' := [.int (Int32.ofInt (0))]) (h' := h1) rfl ?_
    refine zh zJ_181 (i := (4, 1, 0, 0)) rfl rfl (k' := 10) (lo' := [(1, .int (Int32.ofInt (0))), (0, .ref a)]) (st' := []) (h' := h1) rfl ?_
    obtain ⟨w1, g1, hw1⟩ := zfd2 (b := 2) (u := 22) T1 ha he1 (by omega) (by decide +kernel)
    obtain ⟨w2, g2, hw2⟩ := zfd2 (b := 1) (u := 21) T1 ha he1 (by omega) (by decide +kernel)
    obtain ⟨f1, hf1⟩ := zcell1 (n := 1237) T1 hw1 rfl rfl
    obtain ⟨g, hg⟩ := zcell1 (n := 2086) T1 hw2 rfl rfl
    refine zLp_181 ha hw1 hw2 g1 g2 (ms := zcM zC29) (by decide +kernel) (fun x h2 q => ?_) ⟨T1, F1, he1, hf1, g, hg, fun k hk => absurd hk (by omega)⟩
    obtain ⟨T2, F2, he2, hs2, g9, hd2, hcp⟩ := q
    refine zh zJ_181 (i := (2, 0, 0, 0)) rfl rfl (k' := 24) (lo' := [(1, .int x), (0, .ref a)]) (st' := [.ref a]) (h' := h2) rfl ?_
    refine zh zJ_181 (i := (0, 0, 0, 0)) rfl rfl (k' := 25) (lo' := [(1, .int x), (0, .ref a)]) (st' := [.int (Int32.ofInt (0)), .ref a]) (h' := h2) rfl ?_
    obtain ⟨T3, F3⟩ := zwf' (ms := zcM zC29) (b := 7) T2 ha he2 (by omega) (zK0 (n := 0) (by decide) (by decide)) (by decide +kernel) (by decide +kernel)
    have he3 := zset_eq (e := .inr (9, gs.set 7 (.int (Int32.ofInt (0))))) he2
    have hl3 : (gs.set 7 (.int (Int32.ofInt (0)))).length = 23 := by rw [List.length_set]; exact hl1
    refine zh_put zJ_181 (b := 7) (c := 9) (z := 0) rfl (k' := 26) rfl he2 (by omega) rfl ?_
    have hd3 := (zset_ne (h := h2) (e := .inr (9, gs.set 7 (.int (Int32.ofInt (0))))) (show a ≠ w2 from fun e => by rw [e, hw2] at ha; cases ha)).trans hd2
    have hs3 := (zset_ne (h := h2) (e := .inr (9, gs.set 7 (.int (Int32.ofInt (0))))) (show a ≠ w1 from fun e => by rw [e, hw1] at ha; cases ha)).trans hs2
    generalize gs.set 7 (.int (Int32.ofInt (0))) = gs3 at T3 F3 he3 hl3 hd3 hs3 ⊢
    generalize h2.set a (.inr (9, gs3)) = h3 at T3 F3 he3 hd3 hs3 ⊢
    refine zh zJ_181 (i := (0, 0, 0, 1)) rfl rfl (k' := 27) (lo' := [(1, .int x), (0, .ref a)]) (st' := [.int (Int32.ofInt (1))]) (h' := h3) rfl ?_
    refine zh_iret zJ_181 (a := 0) (b := 0) (z := 0) rfl (Or.inr ⟨rfl, Or.inr rfl⟩) ?_
    have F := F2.tr zExt.rf F3
    have L1 : zLT f1 := zEt_keep T T3 F hw1 (Or.inr (Or.inl rfl)) hs3 (fun i h1 h2 => znt_ok (by decide +kernel) h1 h2) E.2
    refine hret _ h3 T3 ⟨E.1, fun b t n f hb hz hbf => ?_⟩ F (by have := zcmp_ne.mp hc; rw [show (0 : Int32).toInt = 0 from rfl] at this; rw [zI_c (by decide) (by decide)]; omega)
    rcases hz with rfl | rfl | rfl
    · have e := E.1 b w2 21 (by omega) (by omega) hb hw2
      subst e
      rw [hd3] at hbf
      cases hbf
      exact zLT_congr (fun k k1 k2 => by have := hcp k (by omega); rw [Nat.zero_add] at this; exact this) L1
    · exact zEt_keep T T3 F hb (Or.inr (Or.inl rfl)) hbf (fun i h1 h2 => znt_ok (by decide +kernel) h1 h2) E.2
    · exact zEt_keep T T3 F hb (Or.inr (Or.inr rfl)) hbf (fun i h1 h2 => znt_ok (by decide +kernel) h1 h2) E.2
  · refine zh zJ_181 (i := (0, 0, 0, 0)) rfl rfl (k' := 7) (lo' := [(0, .ref a)]) (st' := [.int (Int32.ofInt (0))]) (h' := h1) rfl ?_
    refine zh_iret zJ_181 (a := 0) (b := 0) (z := 0) rfl (Or.inr ⟨rfl, Or.inl rfl⟩) ?_
    exact hret _ h1 T1 E1 F1 (by have := mt zcmp_ne.mpr hc; rw [show (0 : Int32).toInt = 0 from rfl] at this; rw [zI_c (by decide) (by decide)]; omega)
theorem zJ_163 : zJ3 163 z_m163 z_c163 z_h163 := ⟨rfl, rfl, rfl⟩
set_option maxRecDepth 100000 in
theorem zS_163 {sx : zX} {ty : List Nat} {ax d : Nat} {h : zH} (H : ∀ c, c < 72 → ∀ c', zCtl[c]? = some c' → zVd z_tt zE1 c') (hd : 12 ≤ d) (T : zTY z_tt ty h) (E : zE1 ty h) (ha : ty[ax]? = some 1) : z_ok sx d 163 0 (lv_args 0 [.ref ax]) [] h (zRq (fun v h' => v = none ∧ ∃ ty', zExt ty ty' ∧ zTY z_tt ty' h' ∧ zE1 ty' h' ∧ zFm (zcM zC174) ty h h' ∧ ∃ fs : List Value, h'[ax]? = some (.inr (8, fs)) ∧ fs[6]? = some (.int 1))) := by
  show z_ok sx d 163 0 [(0, .ref ax)] [] h _
  obtain ⟨fs, he, hl⟩ := zcell0 (c := 8) (n := 8) T ha rfl rfl rfl
  obtain ⟨r4, f4, hr4⟩ := zfd2 (b := 4) (u := 8) T ha he (by omega) (by decide +kernel)
  obtain ⟨r2, f2, hr2⟩ := zfd2 (b := 2) (u := 8) T ha he (by omega) (by decide +kernel)
  obtain ⟨gs4, he4, hl4⟩ := zcell0 (c := 1) (n := 18) T hr4 rfl rfl rfl
  refine zh zJ_163 (i := (2, 0, 0, 0)) rfl rfl (k' := 1) (lo' := [(0, .ref ax)]) (st' := [.ref ax]) (h' := h) rfl ?_
  refine zh_get zJ_163 (b := 4) (c := 8) (z := 0) rfl (k' := 2) rfl he f4 ?_
  refine zh zJ_163 (i := (2, 0, 0, 0)) rfl rfl (k' := 3) (lo' := [(0, .ref ax)]) (st' := [.ref ax, .ref r4]) (h' := h) rfl ?_
  refine zh_get zJ_163 (b := 2) (c := 8) (z := 0) rfl (k' := 4) rfl he f2 ?_
  refine zh_con (as := [.ref r4, .ref r2]) (rest := []) (ct := zC71) zJ_163 (i := (54, 23, 1, 1)) rfl (by decide) (zcal54 (xs := [.ref r2]) (by omega) rfl rfl he4 rfl (Nat.le_of_ble_eq_true rfl) (M' := z_m23) rfl (Nat.le_of_ble_eq_true rfl)) (H 71 (by omega) _ rfl) rfl (by show 7 + 1 ≤ d; omega) rfl ⟨rfl, rfl⟩ T E ⟨⟨r4, 8, rfl, hr4, Int.le_refl _, Int.le_refl _⟩, ⟨r2, 8, rfl, hr2, Int.le_refl _, Int.le_refl _⟩, trivial⟩ (fun ty1 h1 v X1 T1 E1 F1 V1 => ?_)
  match v, V1 with
  | none, V1 =>
  have ha1 := X1 ax 1 ha
  obtain ⟨fs1, he1, hl1⟩ := zcell0 (c := 8) (n := 8) T1 ha1 rfl rfl rfl
  show z_ok sx d 163 5 [(0, .ref ax)] [] h1 _
  refine zh zJ_163 (i := (2, 0, 0, 0)) rfl rfl (k' := 6) (lo' := [(0, .ref ax)]) (st' := [.ref ax]) (h' := h1) rfl ?_
  refine zh zJ_163 (i := (0, 0, 0, 1)) rfl rfl (k' := 7) (lo' := [(0, .ref ax)]) (st' := [.int (Int32.ofInt (1)), .ref ax]) (h' := h1) rfl ?_
  refine zputT zJ_163 (k' := 8) rfl rfl T1 E1 ha1 he1 (by omega) (show zG ty1 (0, 0, 1) (.int (Int32.ofInt (1))) from ⟨_, rfl, by decide, by decide⟩) (by decide +kernel) [(1, 6, 6)] (by decide +kernel) (by decide +kernel) rfl (fun h2 T2 E2 F2 he2 hq2 => ?_)
  refine zh_vret zJ_163 (a := 0) (b := 0) (z := 0) rfl ?_
  exact ⟨_, rfl, rfl, rfl, rfl, ty1, X1, T2, E2, (F1.wide (by decide +kernel)).tr X1 (F2.wide (by decide +kernel)), _, he2, List.getElem?_set_self (by omega)⟩
theorem zJ_164 : zJ3 164 z_m164 z_c164 z_h164 := ⟨rfl, rfl, rfl⟩
def zC_b2 : zCt := (164, [(2, 1, 1)], [(0, 1, 1)], [], [(8, 5, 17), (9, 4, 4), (10, 0, 5), (11, 2, 3), (12, 0, 7), (13, 1, 2), (14, 0, 299), (16, 0, 23), (17, 2, 2)], 8, (0, 0, 0, 0), [])
def zB5 : zCut := (5, [(0, (2, 1, 1))], [], [])
theorem zK_b2 : zxs z_tt zCtl zCand 175 zC_b2 (zstop4 []) (zht4 z_tt zC_b2 zB5 []) 4000 (zc_st zC_b2 zB5) = true := by decide +kernel
set_option maxRecDepth 100000 in
theorem zS_164 {sx : zX} {ty : List Nat} {ax d : Nat} {h : zH} {x6 : Int32} (H : ∀ c, c < 175 → ∀ c', zCtl[c]? = some c' → zVd z_tt zE1 c') (hd : 8 ≤ d) (T : zTY z_tt ty h) (E : zE1 ty h) (ha : ty[ax]? = some 1) (hx6 : ∀ fs : List Value, h[ax]? = some (.inr (8, fs)) → fs[6]? = some (.int x6)) : z_ok sx d 164 0 (lv_args 0 [.ref ax]) [] h (zRq (fun v h' => ∃ (c : Int32) (ty' : List Nat), v = some (.int c) ∧ c.toInt = x6.toInt ∧ zExt ty ty' ∧ zTY z_tt ty' h' ∧ zE1 ty' h' ∧ zFm (zcM zC_b2) ty h h')) := by
  show z_ok sx d 164 0 [(0, .ref ax)] [] h _
  obtain ⟨fs, he, hl⟩ := zcell0 (c := 8) (n := 8) T ha rfl rfl rfl
  have f6 := hx6 fs he
  obtain ⟨y6, g6, y61, y62⟩ := zfd0 (b := 6) (lo := 0) (hi := 1) T ha he (by omega) (by decide +kernel)
  rw [f6] at g6
  cases g6
  refine zh zJ_164 (i := (2, 0, 0, 0)) rfl rfl (k' := 1) (lo' := [(0, .ref ax)]) (st' := [.ref ax]) (h' := h) rfl ?_
  refine zh_get zJ_164 (b := 6) (c := 8) (z := 0) rfl (k' := 2) rfl he f6 ?_
  refine zh_if zJ_164 (a := 5) (b := 1) (z := 0) rfl (fun hc1 => ?_) (fun hc1 => ?_)
  · have e1 : x6.toInt = 1 := (by have := zcmp_ne.mp hc1; rw [show (0 : Int32).toInt = 0 from rfl] at this; omega)
    refine z_ok.imp (zok_go (zseg4 (ct := zC_b2) (c0 := zB5) (gs := []) (d0 := d) (ty0 := ty) (h0 := h) (Φ := zPo z_tt zE1 zC_b2 ty h) (vl := [.ref ax]) (vm := []) (zE1_stable (by decide +kernel)) hd H (fun _ _ _ _ q => q) zK_b2 zExt.rf T E zFm.rf ⟨rfl, ⟨ax, 1, rfl, ha, Int.le_refl _, Int.le_refl _⟩, trivial⟩ trivial (fun g hg => absurd hg List.not_mem_nil))) (fun o h' x y q => ?_)
    obtain ⟨ty', X, T', E', F', q⟩ := q
    cases o with
    | inr e => exact absurd q.1 List.not_mem_nil
    | inl v =>
      obtain ⟨q1, q2, q3⟩ := q
      have q2 : x ≤ 0 := q2
      have q3 : y ≤ 0 := q3
      cases v with
      | none => exact q1.elim
      | some v =>
        obtain ⟨c, rfl, c1, c2⟩ := q1
        exact ⟨_, rfl, by omega, by omega, c, ty', rfl, by omega, X, T', E', F'⟩
  · have e0 : x6.toInt = 0 := (by have := mt zcmp_ne.mpr hc1; rw [show (0 : Int32).toInt = 0 from rfl] at this; omega)
    refine zh zJ_164 (i := (0, 0, 0, 0)) rfl rfl (k' := 4) (lo' := [(0, .ref ax)]) (st' := [.int (Int32.ofInt (0))]) (h' := h) rfl ?_
    refine zh_iret zJ_164 (a := 0) (b := 0) (z := 0) rfl (Or.inr ⟨rfl, Or.inl rfl⟩) ?_
    exact ⟨_, rfl, rfl, rfl, _, ty, rfl, by rw [zI_c (by decide) (by decide)]; omega, zExt.rf, T, E, zFm.rf⟩
