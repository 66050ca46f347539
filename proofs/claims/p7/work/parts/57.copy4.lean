/-! the contracts of undo, remembers; printed with wip/gen/gen_copy4.py -/
set_option maxRecDepth 100000 in
theorem zV_31 : zVd z_tt zE1 zC31 := by
  intro sx d ty h as hd T E hA
  match as, hA with
  | [va], hA =>
  obtain ⟨a, t, rfl, ha, t1, t2⟩ := hA.1
  have et : t = 20 := by omega
  subst et
  show z_ok sx d 183 0 [(0, .ref a)] [] h _
  obtain ⟨fs, he, hl⟩ := zcell0 (c := 9) (n := 23) T ha rfl rfl rfl
  refine zh zJ_183 (i := (2, 0, 0, 0)) rfl rfl (k' := 1) (lo' := [(0, .ref a)]) (st' := [.ref a]) (h' := h) rfl ?_
  refine zh zJ_183 (i := (0, 0, 0, 0)) rfl rfl (k' := 2) (lo' := [(0, .ref a)]) (st' := [.int (Int32.ofInt (0)), .ref a]) (h' := h) rfl ?_
  obtain ⟨T1, F1⟩ := zwf' (ms := zcM zC31) (b := 0) T ha he (by omega) (zK0 (n := 0) (by decide) (by decide)) (by decide +kernel) (by decide +kernel)
  have he1 := zset_eq (e := .inr (9, fs.set 0 (.int (Int32.ofInt (0))))) he
  have hl1 : (fs.set 0 (.int (Int32.ofInt (0)))).length = 23 := by rw [List.length_set]; exact hl
  refine zh_put zJ_183 (b := 0) (c := 9) (z := 0) rfl (k' := 3) rfl he (by omega) rfl ?_
  generalize fs.set 0 (.int (Int32.ofInt (0))) = gs at T1 F1 he1 hl1 ⊢
  generalize h.set a (.inr (9, gs)) = h1 at T1 F1 he1 ⊢
  obtain ⟨m, g7, m1, m2⟩ := zfd0 (b := 7) (lo := 0) (hi := 12) T1 ha he1 (by omega) (by decide +kernel)
  have hret : ∀ (v : Int32) (h' : zH), zTY z_tt ty h' → zFm (zcM zC31) ty h h' → 0 ≤ v.toInt → v.toInt ≤ 1 → zPo z_tt zE1 zC31 ty h (.inl (some (.int v))) h' 0 0 := fun v h' T' F' v1 v2 => ⟨ty, zExt.rf, T', zE1_stable (by decide +kernel) ty h h' T T' (T.len T') F' E, F', ⟨v, rfl, v1, v2⟩, Nat.le_refl _, Nat.le_refl _⟩
  refine zh zJ_183 (i := (2, 0, 0, 0)) rfl rfl (k' := 4) (lo' := [(0, .ref a)]) (st' := [.ref a]) (h' := h1) rfl ?_
  refine zh_get zJ_183 (a := a) (b := 7) (c := 9) (z := 0) rfl (k' := 5) rfl he1 g7 ?_
  refine zh_if zJ_183 (a := 8) (b := 1) (z := 0) rfl (fun hc => ?_) (fun hc => ?_)
  · refine zh zJ_183 (i := (2, 0, 0, 0)) rfl rfl (k' := 9) (lo' := [(0, .ref a)]) (st' := [.ref a]) (h' := h1) rfl ?_
    refine zh zJ_183 (i := (27, 0, 0, 0)) rfl rfl (k' := 10) (lo' := [(0, .ref a)]) (st' := [.ref a, .ref a]) (h' := h1) rfl ?_
    have hm0 : m.toInt ≠ 0 := zcmp_ne.mp hc
    have hm1 := zsub1 (m := m) (by omega) (by omega)
    refine zh_get zJ_183 (a := a) (b := 7) (c := 9) (z := 0) rfl (k' := 11) rfl he1 g7 ?_
    refine zh zJ_183 (i := (0, 0, 0, 1)) rfl rfl (k' := 12) (lo' := [(0, .ref a)]) (st' := [.int (Int32.ofInt (1)), .int m, .ref a]) (h' := h1) rfl ?_
    refine zh zJ_183 (i := (9, 0, 0, 0)) rfl rfl (k' := 13) (lo' := [(0, .ref a)]) (st' := [.int (m - (Int32.ofInt (1))), .ref a]) (h' := h1) rfl ?_
    obtain ⟨T2, F2⟩ := zwf' (ms := zcM zC31) (b := 7) (v := .int (m - Int32.ofInt (1))) (V := (0, 0, 12)) T1 ha he1 (by omega) ⟨_, rfl, by omega, by omega⟩ (by decide +kernel) (by decide +kernel)
    have he2 := zset_eq (e := .inr (9, gs.set 7 (.int (m - Int32.ofInt (1))))) he1
    have g72 : (gs.set 7 (.int (m - Int32.ofInt (1))))[7]? = some (.int (m - Int32.ofInt (1))) := List.getElem?_set_self (by omega)
    have hl2 : (gs.set 7 (.int (m - Int32.ofInt (1)))).length = 23 := by rw [List.length_set]; exact hl1
    refine zh_put zJ_183 (b := 7) (c := 9) (z := 0) rfl (k' := 14) rfl he1 (by omega) rfl ?_
    generalize gs.set 7 (.int (m - Int32.ofInt (1))) = gs2 at T2 F2 he2 hl2 g72 ⊢
    generalize h1.set a (.inr (9, gs2)) = h2 at T2 F2 he2 ⊢
    refine zh zJ_183 (i := (0, 0, 0, 0)) rfl rfl (k' := 15) (lo' := [(0, .ref a)]) (st' := [.int (Int32.ofInt (0))]) (h' := h2) rfl ?_
    refine zh zJ_183 (i := (4, 1, 0, 0)) rfl rfl (k' := 16) (lo' := [(1, .int (Int32.ofInt (0))), (0, .ref a)]) (st' := []) (h' := h2) rfl ?_
    obtain ⟨w1, g1, hw1⟩ := zfd2 (b := 5) (u := 25) T2 ha he2 (by omega) (by decide +kernel)
    obtain ⟨w2, g2, hw2⟩ := zfd2 (b := 1) (u := 21) T2 ha he2 (by omega) (by decide +kernel)
    obtain ⟨f1, hf1⟩ := zcell1 (n := 4656) T2 hw1 rfl rfl
    obtain ⟨g, hg⟩ := zcell1 (n := 2086) T2 hw2 rfl rfl
    refine zLp_183 (m := m - Int32.ofInt (1)) (mn := (m.toInt - 1).toNat) (by omega) (by omega) g72 ha hw1 hw2 g1 g2 (ms := zcM zC31) (by decide +kernel) (fun x h3 q => ?_) ⟨T2, F1.tr zExt.rf F2, he2, hf1, g, hg, fun k hk => absurd hk (by omega)⟩
    obtain ⟨T3, F3, -⟩ := q
    refine zh zJ_183 (i := (0, 0, 0, 1)) rfl rfl (k' := 35) (lo' := [(1, .int x), (0, .ref a)]) (st' := [.int (Int32.ofInt (1))]) (h' := h3) rfl ?_
    refine zh_iret zJ_183 (a := 0) (b := 0) (z := 0) rfl (Or.inr ⟨rfl, Or.inr rfl⟩) ?_
    exact hret _ h3 T3 F3 (by decide) (by decide)
  · refine zh zJ_183 (i := (0, 0, 0, 0)) rfl rfl (k' := 7) (lo' := [(0, .ref a)]) (st' := [.int (Int32.ofInt (0))]) (h' := h1) rfl ?_
    refine zh_iret zJ_183 (a := 0) (b := 0) (z := 0) rfl (Or.inr ⟨rfl, Or.inl rfl⟩) ?_
    exact hret _ h1 T1 F1 (by decide) (by decide)
set_option maxRecDepth 100000 in
theorem zV_30 : zVd z_tt zE1 zC30 := by
  intro sx d ty h as hd T E hA
  match as, hA with
  | [va], hA =>
  obtain ⟨a, t, rfl, ha, t1, t2⟩ := hA.1
  have et : t = 20 := by omega
  subst et
  show z_ok sx d 182 0 [(0, .ref a)] [] h _
  obtain ⟨fs, he, hl⟩ := zcell0 (c := 9) (n := 23) T ha rfl rfl rfl
  obtain ⟨m, g7, m1, m2⟩ := zfd0 (b := 7) (lo := 0) (hi := 12) T ha he (by omega) (by decide +kernel)
  have last : ∀ (h2 : zH) (gs2 : List Value) (m9 : Int32), zTY z_tt ty h2 → zFm (zcM zC30) ty h h2 → h2[a]? = some (.inr (9, gs2)) → gs2.length = 23 → gs2[7]? = some (.int m9) → 1 ≤ m9.toInt → m9.toInt ≤ 12 → z_ok sx d 182 30 [(1, .int (Int32.ofInt (0))), (0, .ref a)] [] h2 (zPo z_tt zE1 zC30 ty h) := by
    intro h2 gs2 m9 T2 F2 he2 hl2 g72 b1 b2
    have hm1 := zsub1 (m := m9) (by omega) (by omega)
    obtain ⟨w1, g1, hw1⟩ := zfd2 (b := 1) (u := 21) T2 ha he2 (by omega) (by decide +kernel)
    obtain ⟨w2, g2, hw2⟩ := zfd2 (b := 5) (u := 25) T2 ha he2 (by omega) (by decide +kernel)
    obtain ⟨f1, hf1⟩ := zcell1 (n := 2086) T2 hw1 rfl rfl
    obtain ⟨g, hg⟩ := zcell1 (n := 4656) T2 hw2 rfl rfl
    refine zLp_182 (m := m9) (mn := (m9.toInt - 1).toNat) (by omega) (by omega) g72 ha hw1 hw2 g1 g2 (ms := zcM zC30) ?_ (fun x h3 q => ?_) ⟨T2, F2, he2, hf1, g, hg, fun k hk => absurd hk (by omega)⟩
    · have h9 : zcv (zcM zC30) 25 0 4655 = true := by decide +kernel
      unfold zcv at h9 ⊢
      obtain ⟨q, hq, h8⟩ := List.any_eq_true.mp h9
      refine List.any_eq_true.mpr ⟨q, hq, ?_⟩
      rw [Bool.and_eq_true, Bool.and_eq_true, decide_eq_true_eq, decide_eq_true_eq, decide_eq_true_eq] at h8 ⊢
      omega
    · obtain ⟨T3, F3, -⟩ := q
      refine zh_vret zJ_182 (a := 0) (b := 0) (z := 0) rfl ?_
      exact ⟨ty, zExt.rf, T3, zE1_stable (by decide +kernel) ty h h3 T T3 (T.len T3) F3 E, F3, trivial, Nat.le_refl _, Nat.le_refl _⟩
  refine zh zJ_182 (i := (2, 0, 0, 0)) rfl rfl (k' := 1) (lo' := [(0, .ref a)]) (st' := [.ref a]) (h' := h) rfl ?_
  refine zh_get zJ_182 (a := a) (b := 7) (c := 9) (z := 0) rfl (k' := 2) rfl he g7 ?_
  refine zh zJ_182 (i := (0, 0, 0, 12)) rfl rfl (k' := 3) (lo' := [(0, .ref a)]) (st' := [.int (Int32.ofInt (12)), .int m]) (h' := h) rfl ?_
  refine zh_icmp zJ_182 (a := 22) (b := 1) (z := 0) rfl (fun hc => ?_) (fun hc => ?_)
  · refine zh zJ_182 (i := (2, 0, 0, 0)) rfl rfl (k' := 23) (lo' := [(0, .ref a)]) (st' := [.ref a]) (h' := h) rfl ?_
    refine zh zJ_182 (i := (27, 0, 0, 0)) rfl rfl (k' := 24) (lo' := [(0, .ref a)]) (st' := [.ref a, .ref a]) (h' := h) rfl ?_
    have hm0 : m.toInt ≠ 12 := fun e => zcmp_ne.mp hc (by rw [e, z_of32 (by omega) (by omega)])
    have hm1 := zadd1 (m := m) (by omega) (by omega)
    refine zh_get zJ_182 (a := a) (b := 7) (c := 9) (z := 0) rfl (k' := 25) rfl he g7 ?_
    refine zh zJ_182 (i := (0, 0, 0, 1)) rfl rfl (k' := 26) (lo' := [(0, .ref a)]) (st' := [.int (Int32.ofInt (1)), .int m, .ref a]) (h' := h) rfl ?_
    refine zh zJ_182 (i := (8, 0, 0, 0)) rfl rfl (k' := 27) (lo' := [(0, .ref a)]) (st' := [.int (m + (Int32.ofInt (1))), .ref a]) (h' := h) rfl ?_
    obtain ⟨T2, F2⟩ := zwf' (ms := zcM zC30) (b := 7) (v := .int (m + Int32.ofInt (1))) (V := (0, 0, 12)) T ha he (by omega) ⟨_, rfl, by omega, by omega⟩ (by decide +kernel) (by decide +kernel)
    have he2 := zset_eq (e := .inr (9, fs.set 7 (.int (m + Int32.ofInt (1))))) he
    have g72 : (fs.set 7 (.int (m + Int32.ofInt (1))))[7]? = some (.int (m + Int32.ofInt (1))) := List.getElem?_set_self (by omega)
    have hl2 : (fs.set 7 (.int (m + Int32.ofInt (1)))).length = 23 := by rw [List.length_set]; exact hl
    refine zh_put zJ_182 (b := 7) (c := 9) (z := 0) rfl (k' := 28) rfl he (by omega) rfl ?_
    generalize fs.set 7 (.int (m + Int32.ofInt (1))) = gs2 at T2 F2 he2 hl2 g72 ⊢
    generalize h.set a (.inr (9, gs2)) = h2 at T2 F2 he2 ⊢
    refine zh zJ_182 (i := (0, 0, 0, 0)) rfl rfl (k' := 29) (lo' := [(0, .ref a)]) (st' := [.int (Int32.ofInt (0))]) (h' := h2) rfl ?_
    refine zh zJ_182 (i := (4, 1, 0, 0)) rfl rfl (k' := 30) (lo' := [(1, .int (Int32.ofInt (0))), (0, .ref a)]) (st' := []) (h' := h2) rfl ?_
    exact last h2 gs2 _ T2 F2 he2 hl2 g72 (by omega) (by omega)
  · refine zh zJ_182 (i := (0, 0, 0, 0)) rfl rfl (k' := 5) (lo' := [(0, .ref a)]) (st' := [.int (Int32.ofInt (0))]) (h' := h) rfl ?_
    refine zh zJ_182 (i := (4, 1, 0, 0)) rfl rfl (k' := 6) (lo' := [(1, .int (Int32.ofInt (0))), (0, .ref a)]) (st' := []) (h' := h) rfl ?_
    have hm0 : m.toInt = 12 := by
      by_cases e : m.toInt = 12
      · exact e
      · exact absurd (zcmp_ne.mpr (by rw [z_of32 (by omega) (by omega)]; exact e)) hc
    obtain ⟨w, g5, hw⟩ := zfd2 (b := 5) (u := 25) T ha he (by omega) (by decide +kernel)
    refine zLs_182 (ms := zcM zC30) (h0 := h) ha hw g5 (by decide +kernel) (fun x h2 q => ?_) ⟨T, zFm.rf, he⟩
    obtain ⟨T2, F2, he2⟩ := q
    refine zh zJ_182 (i := (30, 28, 0, 0)) rfl rfl (k' := 28) (lo' := [(1, .int x), (0, .ref a)]) (st' := []) (h' := h2) rfl ?_
    refine zh zJ_182 (i := (0, 0, 0, 0)) rfl rfl (k' := 29) (lo' := [(1, .int x), (0, .ref a)]) (st' := [.int (Int32.ofInt (0))]) (h' := h2) rfl ?_
    refine zh zJ_182 (i := (4, 1, 0, 0)) rfl rfl (k' := 30) (lo' := [(1, .int (Int32.ofInt (0))), (0, .ref a)]) (st' := []) (h' := h2) rfl ?_
    exact last h2 fs m T2 F2 he2 hl g7 (by omega) (by omega)
