/-! the contracts of image, back, keepsAll, bringsBack; printed with wip/gen/gen_copy2.py -/
set_option maxRecDepth 100000 in
theorem zV_28 : zVd z_tt zE1 zC28 := by
  intro sx d ty h as hd T E hA
  match as, hA with
  | [va], hA =>
  obtain ⟨a, t, rfl, ha, t1, t2⟩ := hA.1
  have et : t = 20 := by omega
  subst et
  show z_ok sx d 180 0 [(0, .ref a)] [] h _
  obtain ⟨fs, he, hl⟩ := zcell0 (c := 9) (n := 23) T ha rfl rfl rfl
  refine zh zJ_180 (i := (2, 0, 0, 0)) rfl rfl (k' := 1) (lo' := [(0, .ref a)]) (st' := [.ref a]) (h' := h) rfl ?_
  refine zh zJ_180 (i := (0, 0, 0, 0)) rfl rfl (k' := 2) (lo' := [(0, .ref a)]) (st' := [.int (Int32.ofInt (0)), .ref a]) (h' := h) rfl ?_
  obtain ⟨T1, F1⟩ := zwf' (ms := zcM zC28) (b := 0) T ha he (by omega) (zK0 (n := 0) (by decide) (by decide)) (by decide +kernel) (by decide +kernel)
  have he1 := zset_eq (e := .inr (9, fs.set 0 (.int (Int32.ofInt (0))))) he
  have hl1 : (fs.set 0 (.int (Int32.ofInt (0)))).length = 23 := by rw [List.length_set]; exact hl
  refine zh_put zJ_180 (b := 0) (c := 9) (z := 0) rfl (k' := 3) rfl he (by omega) rfl ?_
  generalize fs.set 0 (.int (Int32.ofInt (0))) = gs at T1 F1 he1 hl1 ⊢
  generalize h.set a (.inr (9, gs)) = h1 at T1 F1 he1 ⊢
  refine zh zJ_180 (i := (0, 0, 0, 0)) rfl rfl (k' := 4) (lo' := [(0, .ref a)]) (st' := [.int (Int32.ofInt (0))]) (h' := h1) rfl ?_
  refine zh zJ_180 (i := (4, 1, 0, 0)) rfl rfl (k' := 5) (lo' := [(1, .int (Int32.ofInt (0))), (0, .ref a)]) (st' := []) (h' := h1) rfl ?_
  obtain ⟨w1, g1, hw1⟩ := zfd2 (b := 1) (u := 21) T1 ha he1 (by omega) (by decide +kernel)
  obtain ⟨w2, g2, hw2⟩ := zfd2 (b := 2) (u := 22) T1 ha he1 (by omega) (by decide +kernel)
  obtain ⟨f1, hf1⟩ := zcell1 (n := 2086) T1 hw1 rfl rfl
  obtain ⟨g, hg⟩ := zcell1 (n := 1237) T1 hw2 rfl rfl
  refine zLp_180 ha hw1 hw2 g1 g2 (ms := zcM zC28) (by decide +kernel) (fun x h2 q => ?_) ⟨T1, F1, he1, hf1, g, hg, fun k hk => absurd hk (by omega)⟩
  obtain ⟨T2, F2, he2, hs2, g9, hd2, hcp⟩ := q
  refine zh zJ_180 (i := (2, 0, 0, 0)) rfl rfl (k' := 19) (lo' := [(1, .int x), (0, .ref a)]) (st' := [.ref a]) (h' := h2) rfl ?_
  refine zh zJ_180 (i := (0, 0, 0, 1)) rfl rfl (k' := 20) (lo' := [(1, .int x), (0, .ref a)]) (st' := [.int (Int32.ofInt (1)), .ref a]) (h' := h2) rfl ?_
  obtain ⟨T3, F3⟩ := zwf' (ms := zcM zC28) (b := 6) T2 ha he2 (by omega) (zK0 (n := 1) (by decide) (by decide)) (by decide +kernel) (by decide +kernel)
  have he3 := zset_eq (e := .inr (9, gs.set 6 (.int (Int32.ofInt (1))))) he2
  have hl3 : (gs.set 6 (.int (Int32.ofInt (1)))).length = 23 := by rw [List.length_set]; exact hl1
  refine zh_put zJ_180 (b := 6) (c := 9) (z := 1) rfl (k' := 21) rfl he2 (by omega) rfl ?_
  have hd3 := (zset_ne (h := h2) (e := .inr (9, gs.set 6 (.int (Int32.ofInt (1))))) (show a ≠ w2 from fun e => by rw [e, hw2] at ha; cases ha)).trans hd2
  have hs3 := (zset_ne (h := h2) (e := .inr (9, gs.set 6 (.int (Int32.ofInt (1))))) (show a ≠ w1 from fun e => by rw [e, hw1] at ha; cases ha)).trans hs2
  generalize gs.set 6 (.int (Int32.ofInt (1))) = gs3 at T3 F3 he3 hl3 hd3 hs3 ⊢
  generalize h2.set a (.inr (9, gs3)) = h3 at T3 F3 he3 hd3 hs3 ⊢
  refine zh_vret zJ_180 (a := 0) (b := 0) (z := 0) rfl ?_
  have F := F2.tr zExt.rf F3
  have L1 : zLT f1 := zEt_keep T T3 F hw1 (Or.inl rfl) hs3 (fun i h1 h2 => znt_ok (by decide +kernel) h1 h2) E.2
  refine ⟨ty, zExt.rf, T3, ⟨E.1, fun b t n f hb hz hbf => ?_⟩, F, trivial, Nat.le_refl _, Nat.le_refl _⟩
  rcases hz with rfl | rfl | rfl
  · exact zEt_keep T T3 F hb (Or.inl rfl) hbf (fun i h1 h2 => znt_ok (by decide +kernel) h1 h2) E.2
  · have e := E.1 b w2 22 (by omega) (by omega) hb hw2
    subst e
    rw [hd3] at hbf
    cases hbf
    exact zLT_congr (fun k k1 k2 => by have := hcp k (by omega); rw [Nat.zero_add] at this; exact this) L1
  · exact zEt_keep T T3 F hb (Or.inr (Or.inr rfl)) hbf (fun i h1 h2 => znt_ok (by decide +kernel) h1 h2) E.2
set_option maxRecDepth 100000 in
theorem zV_32 : zVd z_tt zE1 zC32 := by
  intro sx d ty h as hd T E hA
  match as, hA with
  | [va], hA =>
  obtain ⟨a, t, rfl, ha, t1, t2⟩ := hA.1
  have et : t = 20 := by omega
  subst et
  show z_ok sx d 266 0 [(0, .ref a)] [] h _
  obtain ⟨fs, he, hl⟩ := zcell0 (c := 9) (n := 23) T ha rfl rfl rfl
  refine zh zJ_266 (i := (0, 0, 0, 0)) rfl rfl (k' := 1) (lo' := [(0, .ref a)]) (st' := [.int (Int32.ofInt (0))]) (h' := h) rfl ?_
  refine zh zJ_266 (i := (4, 1, 0, 0)) rfl rfl (k' := 2) (lo' := [(1, .int (Int32.ofInt (0))), (0, .ref a)]) (st' := []) (h' := h) rfl ?_
  obtain ⟨w1, g1, hw1⟩ := zfd2 (b := 1) (u := 21) T ha he (by omega) (by decide +kernel)
  obtain ⟨w2, g2, hw2⟩ := zfd2 (b := 4) (u := 24) T ha he (by omega) (by decide +kernel)
  obtain ⟨f1, hf1⟩ := zcell1 (n := 2086) T hw1 rfl rfl
  obtain ⟨g, hg⟩ := zcell1 (n := 388) T hw2 rfl rfl
  refine zLp_266 ha hw1 hw2 g1 g2 (ms := zcM zC32) (by decide +kernel) (fun x h2 q => ?_) ⟨T, zFm.rf, he, hf1, g, hg, fun k hk => absurd hk (by omega)⟩
  obtain ⟨T2, F2, he2, hs2, g9, hd2, hcp⟩ := q
  refine zh_vret zJ_266 (a := 0) (b := 0) (z := 0) rfl ?_
  exact ⟨ty, zExt.rf, T2, zE1_stable (by decide +kernel) ty h h2 T T2 (T.len T2) F2 E, F2, trivial, Nat.le_refl _, Nat.le_refl _⟩
set_option maxRecDepth 100000 in
theorem zV_33 : zVd z_tt zE1 zC33 := by
  intro sx d ty h as hd T E hA
  match as, hA with
  | [va], hA =>
  obtain ⟨a, t, rfl, ha, t1, t2⟩ := hA.1
  have et : t = 20 := by omega
  subst et
  show z_ok sx d 267 0 [(0, .ref a)] [] h _
  obtain ⟨fs, he, hl⟩ := zcell0 (c := 9) (n := 23) T ha rfl rfl rfl
  refine zh zJ_267 (i := (0, 0, 0, 0)) rfl rfl (k' := 1) (lo' := [(0, .ref a)]) (st' := [.int (Int32.ofInt (0))]) (h' := h) rfl ?_
  refine zh zJ_267 (i := (4, 1, 0, 0)) rfl rfl (k' := 2) (lo' := [(1, .int (Int32.ofInt (0))), (0, .ref a)]) (st' := []) (h' := h) rfl ?_
  obtain ⟨w1, g1, hw1⟩ := zfd2 (b := 4) (u := 24) T ha he (by omega) (by decide +kernel)
  obtain ⟨w2, g2, hw2⟩ := zfd2 (b := 1) (u := 21) T ha he (by omega) (by decide +kernel)
  obtain ⟨f1, hf1⟩ := zcell1 (n := 388) T hw1 rfl rfl
  obtain ⟨g, hg⟩ := zcell1 (n := 2086) T hw2 rfl rfl
  refine zLp_267 ha hw1 hw2 g1 g2 (ms := zcM zC33) (by decide +kernel) (fun x h2 q => ?_) ⟨T, zFm.rf, he, hf1, g, hg, fun k hk => absurd hk (by omega)⟩
  obtain ⟨T2, F2, he2, hs2, g9, hd2, hcp⟩ := q
  refine zh_vret zJ_267 (a := 0) (b := 0) (z := 0) rfl ?_
  exact ⟨ty, zExt.rf, T2, zE1_stable (by decide +kernel) ty h h2 T T2 (T.len T2) F2 E, F2, trivial, Nat.le_refl _, Nat.le_refl _⟩
set_option maxRecDepth 100000 in
theorem zV_29 : zVd z_tt zE1 zC29 := by
  intro sx d ty h as hd T E hA
  match as, hA with
  | [va], hA =>
  obtain ⟨a, t, rfl, ha, t1, t2⟩ := hA.1
  have et : t = 20 := by omega
  subst et
  show z_ok sx d 181 0 [(0, .ref a)] [] h _
  obtain ⟨fs, he, hl⟩ := zcell0 (c := 9) (n := 23) T ha rfl rfl rfl
  refine zh zJ_181 (i := (2, 0, 0, 0)) rfl rfl (k' := 1) (lo' := [(0, .ref a)]) (st' := [.ref a]) (h' := h) rfl ?_
  refine zh zJ_181 (i := (0, 0, 0, 0)) rfl rfl (k' := 2) (lo' := [(0, .ref a)]) (st' := [.int (Int32.ofInt (0)), .ref a]) (h' := h) rfl ?_
  have zF0 := (zwf' (ms := [(20, 0, 0)]) (b := 0) T ha he (by omega) (zK0 (n := 0) (by decide) (by decide)) (by decide +kernel) (by decide +kernel)).2
  obtain ⟨T1, F1⟩ := zwf' (ms := zcM zC29) (b := 0) T ha he (by omega) (zK0 (n := 0) (by decide) (by decide)) (by decide +kernel) (by decide +kernel)
  have he1 := zset_eq (e := .inr (9, fs.set 0 (.int (Int32.ofInt (0))))) he
  have hl1 : (fs.set 0 (.int (Int32.ofInt (0)))).length = 23 := by rw [List.length_set]; exact hl
  refine zh_put zJ_181 (b := 0) (c := 9) (z := 0) rfl (k' := 3) rfl he (by omega) rfl ?_
  generalize fs.set 0 (.int (Int32.ofInt (0))) = gs at T1 F1 zF0 he1 hl1 ⊢
  generalize h.set a (.inr (9, gs)) = h1 at T1 F1 zF0 he1 ⊢
  obtain ⟨b6, g6, b61, b62⟩ := zfd0 (b := 6) (lo := 0) (hi := 1) T1 ha he1 (by omega) (by decide +kernel)
  have F10 : zFm [(20, 0, 0)] ty h h1 := zF0
  have E1 : zE1 ty h1 := zE1_stable (by decide +kernel) ty h h1 T T1 (T.len T1) F10 E
  have hret : ∀ (v : Int32) (h' : zH), zTY z_tt ty h' → zE1 ty h' → zFm (zcM zC29) ty h h' → 0 ≤ v.toInt → v.toInt ≤ 1 → zPo z_tt zE1 zC29 ty h (.inl (some (.int v))) h' 0 0 := fun v h' T' E' F' v1 v2 => ⟨ty, zExt.rf, T', E', F', ⟨v, rfl, v1, v2⟩, Nat.le_refl _, Nat.le_refl _⟩
  refine zh zJ_181 (i := (2, 0, 0, 0)) rfl rfl (k' := 4) (lo' := [(0, .ref a)]) (st' := [.ref a]) (h' := h1) rfl ?_
  refine zh_get zJ_181 (a := a) (b := 6) (c := 9) (z := 0) rfl (k' := 5) rfl he1 g6 ?_
  refine zh_if zJ_181 (a := 8) (b := 1) (z := 0) rfl (fun hc => ?_) (fun hc => ?_)
  · refine zh zJ_181 (i := (0, 0, 0, 0)) rfl rfl (k' := 9) (lo' := [(0, .ref a)]) (st' := [.int (Int32.ofInt (0))]) (h' := h1) rfl ?_
    refine zh zJ_181 (i := (4, 1, 0, 0)) rfl rfl (k' := 10) (lo' := [(1, .int (Int32.ofInt (0))), (0, .ref a)]) (st' := []) (h' := h1) rfl ?_
    obtain ⟨w1, g1, hw1⟩ := zfd2 (b := 2) (u := 22) T1 ha he1 (by omega) (by decide +kernel)
    obtain ⟨w2, g2, hw2⟩ := zfd2 (b := 1) (u := 21) T1 ha he1 (by omega) (by decide +kernel)
    obtain ⟨f1, hf1⟩ := zcell1 (n := 1237) T1 hw1 rfl rfl
    obtain ⟨g, hg⟩ := zcell1 (n := 2086) T1 hw2 rfl rfl
    refine zLp_181 ha hw1 hw2 g1 g2 (ms := zcM zC29) (by decide +kernel) (fun x h2 q => ?_) ⟨T1, F1, he1, hf1, g, hg, fun k hk => absurd hk (by omega)⟩
    obtain ⟨T2, F2, he2, hs2, g9, hd2, hcp⟩ := q
    refine zh zJ_181 (i := (2, 0, 0, 0)) rfl rfl (k' := 24) (lo' := [(1, .int x), (0, .ref a)]) (st' := [.ref a]) (h' := h2) rfl ?_
    refine zh zJ_181 (i := (0, 0, 0, 0)) rfl rfl (k' := 25) (lo' := [(1, .int x), (0, .ref a)]) (st' := [.int (Int32.ofInt (0)), .ref a]) (h' := h2) rfl ?_
    obtain ⟨T3, F3⟩ := zwf' (ms := zcM zC29) (b := 7) T2 ha he2 (by omega) (zK0 (n := 0) (by decide) (by decide)) (by decide +kernel) (by decide +kernel)
    have he3 := zset_eq (e := .inr (9, gs.set 7 (.int (Int32.ofInt (0))))) he2
    have hl3 : (gs.set 7 (.int (Int32.ofInt (0)))).length = 23 := by rw [List.length_set]; exact hl1
    refine zh_put zJ_181 (b := 7) (c := 9) (z := 0) rfl (k' := 26) rfl he2 (by omega) rfl ?_
    have hd3 := (zset_ne (h := h2) (e := .inr (9, gs.set 7 (.int (Int32.ofInt (0))))) (show a ≠ w2 from fun e => by rw [e, hw2] at ha; cases ha)).trans hd2
    have hs3 := (zset_ne (h := h2) (e := .inr (9, gs.set 7 (.int (Int32.ofInt (0))))) (show a ≠ w1 from fun e => by rw [e, hw1] at ha; cases ha)).trans hs2
    generalize gs.set 7 (.int (Int32.ofInt (0))) = gs3 at T3 F3 he3 hl3 hd3 hs3 ⊢
    generalize h2.set a (.inr (9, gs3)) = h3 at T3 F3 he3 hd3 hs3 ⊢
    refine zh zJ_181 (i := (0, 0, 0, 1)) rfl rfl (k' := 27) (lo' := [(1, .int x), (0, .ref a)]) (st' := [.int (Int32.ofInt (1))]) (h' := h3) rfl ?_
    refine zh_iret zJ_181 (a := 0) (b := 0) (z := 0) rfl (Or.inr ⟨rfl, Or.inr rfl⟩) ?_
    have F := F2.tr zExt.rf F3
    have L1 : zLT f1 := zEt_keep T T3 F hw1 (Or.inr (Or.inl rfl)) hs3 (fun i h1 h2 => znt_ok (by decide +kernel) h1 h2) E.2
    refine hret _ h3 T3 ⟨E.1, fun b t n f hb hz hbf => ?_⟩ F (by decide) (by decide)
    rcases hz with rfl | rfl | rfl
    · have e := E.1 b w2 21 (by omega) (by omega) hb hw2
      subst e
      rw [hd3] at hbf
      cases hbf
      exact zLT_congr (fun k k1 k2 => by have := hcp k (by omega); rw [Nat.zero_add] at this; exact this) L1
    · exact zEt_keep T T3 F hb (Or.inr (Or.inl rfl)) hbf (fun i h1 h2 => znt_ok (by decide +kernel) h1 h2) E.2
    · exact zEt_keep T T3 F hb (Or.inr (Or.inr rfl)) hbf (fun i h1 h2 => znt_ok (by decide +kernel) h1 h2) E.2
  · refine zh zJ_181 (i := (0, 0, 0, 0)) rfl rfl (k' := 7) (lo' := [(0, .ref a)]) (st' := [.int (Int32.ofInt (0))]) (h' := h1) rfl ?_
    refine zh_iret zJ_181 (a := 0) (b := 0) (z := 0) rfl (Or.inr ⟨rfl, Or.inl rfl⟩) ?_
    exact hret _ h1 T1 E1 F1 (by decide) (by decide)
