/-! the reference's deed; printed with wip/gen/gen_rd6.py -/
noncomputable def zX2 : zCut := (2, [(0, (2, 20, 20)), (1, (0, 1, 1))], [], [(0, 0, 0, 2), (0, 0, 0, 0), (0, 0, 0, 0)])
noncomputable def zX16 : zCut := (16, [(0, (2, 20, 20)), (1, (0, 1, 1)), (2, (0, 0, 14))], [(0, 10, (0, 0, 400)), (0, 11, (0, 0, 400)), (0, 16, (0, 0, 0))], [(0, 0, 0, 1), (1, 2, 0, 14), (0, 0, 0, 1)])
noncomputable def zC_ra : zCt := (230, [(2, 20, 20), (0, 1, 1)], [(0, -1, 14)], [], [(20, 10, 10), (20, 12, 12), (20, 16, 16), (21, 0, 1), (21, 4, 4), (21, 10, 13), (21, 16, 87)], 24, (0, 0, 0, 0), [zX2, zX16])
theorem zK_ra2 : zx z_tt zCtl zCand 273 zC_ra (some zX2) 4000 (zc_st zC_ra zX2) = true := by decide +kernel
theorem zK_ra16 : zx z_tt zCtl zCand 273 zC_ra (some zX16) 4000 (zc_st zC_ra zX16) = true := by decide +kernel
noncomputable def zDm : List zMod := [(20, 0, 0), (20, 7, 7), (20, 9, 14), (20, 16, 16), (21, 0, 1236), (23, 0, 1236)]
theorem zNi.keep' {ms : List zMod} {ty ty' : List Nat} {h h' : zH} {a : Nat} (T' : zTY z_tt ty' h') (X : zExt ty ty') (ha : ty[a]? = some 20) (F : zFm ms ty h h') (hm : ¬ zIn ms 20 9) (H : zNi h a) : zNi h' a := by
  obtain ⟨fs, he, h9⟩ := H
  obtain ⟨fs', he', hl'⟩ := zcell0 (c := 9) (n := 23) T' (X a 20 ha) rfl rfl rfl
  have := F.2 a 20 _ _ ha he he' 9 hm
  exact ⟨fs', he', this.trans h9⟩
set_option maxRecDepth 100000 in
theorem zS_230t {sx : zX} {ty : List Nat} {a d : Nat} {h : zH} (H : ∀ c, c < 273 → ∀ c', zCtl[c]? = some c' → zVd z_tt zE1 c') (hd : 24 ≤ d) (T : zTY z_tt ty h) (E : zE1 ty h) (ha : ty[a]? = some 20) : z_ok sx d 230 0 (lv_args 0 [.ref a, .int (Int32.ofInt (1))]) [] h (zRq (fun v h' => (∃ c : Int32, v = some (.int c)) ∧ ∃ ty', zExt ty ty' ∧ zTY z_tt ty' h' ∧ zE1 ty' h' ∧ zFm zDm ty h h' ∧ zNi h' a)) := by
  show z_ok sx d 230 0 [(0, .ref a), (1, .int (Int32.ofInt (1)))] [] h _
  refine zh zJ_230 (i := (2, 0, 0, 0)) rfl rfl (k' := 1) (lo' := [(0, .ref a), (1, .int (Int32.ofInt (1)))]) (st' := [.ref a]) (h' := h) rfl ?_
  obtain ⟨fs, he, hl⟩ := zcell0 (c := 9) (n := 23) T ha rfl rfl rfl
  refine zh_run (rest := []) (as := [.ref a]) zJ_230 (i := (54, 210, 0, 9)) rfl (by decide) (zcal54 (xs := []) (by omega) rfl rfl he rfl (Nat.le_of_ble_eq_true rfl) (M' := z_m210) rfl (Nat.le_of_ble_eq_true rfl)) (zS_210 T E ha) (fun o hh x y q => ?_)
  obtain ⟨v, rfl, rfl, rfl, rfl, T1, E1, F1, N1⟩ := q
  refine ⟨_, rfl, rfl, rfl, ?_⟩
  have hgo := zcut_ok (sx := sx) (d0 := d) (ty0 := ty) (h0 := hh) (ct := zC_ra) (own := 273) (cts := zCtl) (cand := zCand) (N := 3) (fuel := 4000) (zE1_stable (by decide +kernel)) hd (fun c hc c' hc' => H c hc c' hc') (by decide +kernel) (fun c hc => by
    rcases List.mem_cons.mp hc with rfl | hc
    · exact zK_ra2
    · rw [List.mem_singleton.mp hc]; exact zK_ra16) (zX2.2.2.2.map (zmc [(0, .ref a), (1, .int (Int32.ofInt (1)))] hh)) rfl zX2 List.mem_cons_self ty [(0, .ref a), (1, .int (Int32.ofInt (1)))] hh [.ref a, .int (Int32.ofInt (1))] [] rfl zExt.rf T1 E1 zFm.rf ⟨rfl, ⟨a, 20, rfl, ha, Int.le_refl _, Int.le_refl _⟩, rfl, ⟨_, rfl, by decide, by decide⟩, trivial⟩ trivial
  refine z_ok.imp hgo (fun o h2 x y q => ?_)
  have q : zPo z_tt zE1 zC_ra ty hh o h2 (x + 0) (y + 0) := q
  obtain ⟨ty', X, T2, E2, F2, q⟩ := q
  cases o with
  | inr e => exact absurd q.1 List.not_mem_nil
  | inl v =>
  obtain ⟨q1, q2, q3⟩ := q
  have q2 : x + 0 ≤ 0 := q2
  have q3 : y + 0 ≤ 0 := q3
  cases v with
  | none => exact q1.elim
  | some v =>
  obtain ⟨c, rfl, c1, c2⟩ := q1
  exact ⟨_, rfl, by omega, by omega, ⟨c, rfl⟩, ty', X, T2, E2, (F1.wide (by decide +kernel)).tr zExt.rf (F2.wide (by decide +kernel)), N1.keep' T2 X ha F2 (zNin _ _ _ (by decide +kernel))⟩
theorem zJ_231 : zJ3 231 z_m231 z_c231 z_h231 := ⟨rfl, rfl, rfl⟩
set_option maxRecDepth 100000 in
theorem zLp_231a {sx : zX} {d : Nat} {Ψ : zO → zH → Nat → Nat → Prop} {ty : List Nat} {h0 : zH} {a w1 w2 : Nat} {gs : List Value} {f1 : Nat → Int32} {ms : List zMod} (ha : ty[a]? = some 20) (ht1 : ty[w1]? = some 21) (ht2 : ty[w2]? = some 23) (hg1 : gs[1]? = some (.ref w1)) (hg3 : gs[3]? = some (.ref w2)) (hm : zcv ms 23 ((0 : Nat) : Int) (((0 + 1237 : Nat) : Int) - 1) = true) (kk : ∀ (x : Int32) (h : zH), zQc ty h0 a gs w1 2086 f1 w2 1237 ms 0 0 1237 h → z_ok sx d 231 15 [(1, .int x), (0, .ref a)] [] h Ψ) {h : zH} (q : zQc ty h0 a gs w1 2086 f1 w2 1237 ms 0 0 0 h) : z_ok sx d 231 2 [(1, .int (Int32.ofInt (0))), (0, .ref a)] [] h Ψ := by
  refine zloop (fun x => [(1, .int x), (0, .ref a)]) 1237 (zQc ty h0 a gs w1 2086 f1 w2 1237 ms 0 0) (fun i x h hx hi q kk => ?_) (fun x h hx q => ?_) 1237 0 _ h rfl rfl q
  · obtain ⟨T, F, he, h1, g, h2, hg⟩ := q
    refine zh zJ_231 (i := (1, 1, 0, 0)) rfl rfl (k' := 3) (lo' := [(1, .int x), (0, .ref a)]) (st' := [.int x]) (h' := h) rfl ?_
    refine zh zJ_231 (i := (0, 0, 0, 1237)) rfl rfl (k' := 4) (lo' := [(1, .int x), (0, .ref a)]) (st' := [.int (Int32.ofInt (1237)), .int x]) (h' := h) rfl ?_
    refine zh_icmp zJ_231 (a := 15) (b := 3) (z := 0) rfl (fun hc => ?_) (fun hc => ?_)
    · exact absurd (zcmp_ge.mp hc) (by rw [hx, z_of32 (by omega) (by omega)]; omega)
    refine zh zJ_231 (i := (2, 0, 0, 0)) rfl rfl (k' := 6) (lo' := [(1, .int x), (0, .ref a)]) (st' := [.ref a]) (h' := h) rfl ?_
    refine zh_get zJ_231 (a := a) (b := 3) (c := 9) (z := 0) rfl (k' := 7) rfl he hg3 ?_
    refine zh zJ_231 (i := (1, 1, 0, 0)) rfl rfl (k' := 8) (lo' := [(1, .int x), (0, .ref a)]) (st' := [.int x, .ref w2]) (h' := h) rfl ?_
    refine zh zJ_231 (i := (2, 0, 0, 0)) rfl rfl (k' := 9) (lo' := [(1, .int x), (0, .ref a)]) (st' := [.ref a, .int x, .ref w2]) (h' := h) rfl ?_
    refine zh_get zJ_231 (a := a) (b := 1) (c := 9) (z := 0) rfl (k' := 10) rfl he hg1 ?_
    refine zh zJ_231 (i := (1, 1, 0, 0)) rfl rfl (k' := 11) (lo' := [(1, .int x), (0, .ref a)]) (st' := [.int x, .ref w1, .int x, .ref w2]) (h' := h) rfl ?_
    refine zh_iald zJ_231 (z := 0) rfl (k' := 12) rfl h1 (by omega) (by omega) ?_
    refine zh_iast zJ_231 (z := 0) rfl (k' := 13) rfl h2 (by omega) (by omega) ?_
    refine zh zJ_231 (i := (7, 1, 0, 1)) rfl rfl (k' := 14) (lo' := [(1, .int (x + Int32.ofInt (1))), (0, .ref a)]) (st' := []) (h' := (h.set w2 (.inl (0, (1237, .inl (upd g x.toNatClampNeg (f1 x.toNatClampNeg))))))) rfl ?_
    refine zh zJ_231 (i := (30, 2, 0, 0)) rfl rfl (k' := 2) (lo' := [(1, .int (x + Int32.ofInt (1))), (0, .ref a)]) (st' := []) (h' := (h.set w2 (.inl (0, (1237, .inl (upd g x.toNatClampNeg (f1 x.toNatClampNeg))))))) rfl ?_
    refine kk _ _ (zinc hx (by omega)) ?_
    rw [znat hx]
    have := zQc_step (N := 1237) (t1 := 21) (t2 := 23) ⟨T, F, he, h1, h2, hg⟩ hi (by omega) (by omega) ha ht1 ht2 (by decide) (by decide) (zreg_same (N := 1237) (by decide +kernel) hi) hm
    rw [Nat.zero_add] at this
    exact this
  · refine zh zJ_231 (i := (1, 1, 0, 0)) rfl rfl (k' := 3) (lo' := [(1, .int x), (0, .ref a)]) (st' := [.int x]) (h' := h) rfl ?_
    refine zh zJ_231 (i := (0, 0, 0, 1237)) rfl rfl (k' := 4) (lo' := [(1, .int x), (0, .ref a)]) (st' := [.int (Int32.ofInt (1237)), .int x]) (h' := h) rfl ?_
    refine zh_icmp zJ_231 (a := 15) (b := 3) (z := 0) rfl (fun hc => ?_) (fun hc => ?_)
    · exact kk x h q
    · exact absurd (zcmp_ge.mpr (by rw [hx, z_of32 (by omega) (by omega)]; omega)) hc
set_option maxRecDepth 100000 in
theorem zLp_231b {sx : zX} {d : Nat} {r : Int32} {Ψ : zO → zH → Nat → Nat → Prop} {ty : List Nat} {h0 : zH} {a w1 w2 : Nat} {gs : List Value} {f1 : Nat → Int32} {ms : List zMod} (ha : ty[a]? = some 20) (ht1 : ty[w1]? = some 23) (ht2 : ty[w2]? = some 21) (hg3 : gs[3]? = some (.ref w1)) (hg1 : gs[1]? = some (.ref w2)) (hm : zcv ms 21 ((0 : Nat) : Int) (((0 + 1237 : Nat) : Int) - 1) = true) (kk : ∀ (x : Int32) (h : zH), zQc ty h0 a gs w1 1237 f1 w2 2086 ms 0 0 1237 h → z_ok sx d 231 64 [(2, .int x), (1, .int r), (0, .ref a)] [] h Ψ) {h : zH} (q : zQc ty h0 a gs w1 1237 f1 w2 2086 ms 0 0 0 h) : z_ok sx d 231 51 [(2, .int (Int32.ofInt (0))), (1, .int r), (0, .ref a)] [] h Ψ := by
  refine zloop (fun x => [(2, .int x), (1, .int r), (0, .ref a)]) 1237 (zQc ty h0 a gs w1 1237 f1 w2 2086 ms 0 0) (fun i x h hx hi q kk => ?_) (fun x h hx q => ?_) 1237 0 _ h rfl rfl q
  · obtain ⟨T, F, he, h1, g, h2, hg⟩ := q
    refine zh zJ_231 (i := (1, 2, 0, 0)) rfl rfl (k' := 52) (lo' := [(2, .int x), (1, .int r), (0, .ref a)]) (st' := [.int x]) (h' := h) rfl ?_
    refine zh zJ_231 (i := (0, 0, 0, 1237)) rfl rfl (k' := 53) (lo' := [(2, .int x), (1, .int r), (0, .ref a)]) (st' := [.int (Int32.ofInt (1237)), .int x]) (h' := h) rfl ?_
    refine zh_icmp zJ_231 (a := 64) (b := 3) (z := 0) rfl (fun hc => ?_) (fun hc => ?_)
    · exact absurd (zcmp_ge.mp hc) (by rw [hx, z_of32 (by omega) (by omega)]; omega)
    refine zh zJ_231 (i := (2, 0, 0, 0)) rfl rfl (k' := 55) (lo' := [(2, .int x), (1, .int r), (0, .ref a)]) (st' := [.ref a]) (h' := h) rfl ?_
    refine zh_get zJ_231 (a := a) (b := 1) (c := 9) (z := 0) rfl (k' := 56) rfl he hg1 ?_
    refine zh zJ_231 (i := (1, 2, 0, 0)) rfl rfl (k' := 57) (lo' := [(2, .int x), (1, .int r), (0, .ref a)]) (st' := [.int x, .ref w2]) (h' := h) rfl ?_
    refine zh zJ_231 (i := (2, 0, 0, 0)) rfl rfl (k' := 58) (lo' := [(2, .int x), (1, .int r), (0, .ref a)]) (st' := [.ref a, .int x, .ref w2]) (h' := h) rfl ?_
    refine zh_get zJ_231 (a := a) (b := 3) (c := 9) (z := 0) rfl (k' := 59) rfl he hg3 ?_
    refine zh zJ_231 (i := (1, 2, 0, 0)) rfl rfl (k' := 60) (lo' := [(2, .int x), (1, .int r), (0, .ref a)]) (st' := [.int x, .ref w1, .int x, .ref w2]) (h' := h) rfl ?_
    refine zh_iald zJ_231 (z := 0) rfl (k' := 61) rfl h1 (by omega) (by omega) ?_
    refine zh_iast zJ_231 (z := 0) rfl (k' := 62) rfl h2 (by omega) (by omega) ?_
    refine zh zJ_231 (i := (7, 2, 0, 1)) rfl rfl (k' := 63) (lo' := [(2, .int (x + Int32.ofInt (1))), (1, .int r), (0, .ref a)]) (st' := []) (h' := (h.set w2 (.inl (0, (2086, .inl (upd g x.toNatClampNeg (f1 x.toNatClampNeg))))))) rfl ?_
    refine zh zJ_231 (i := (30, 51, 0, 0)) rfl rfl (k' := 51) (lo' := [(2, .int (x + Int32.ofInt (1))), (1, .int r), (0, .ref a)]) (st' := []) (h' := (h.set w2 (.inl (0, (2086, .inl (upd g x.toNatClampNeg (f1 x.toNatClampNeg))))))) rfl ?_
    refine kk _ _ (zinc hx (by omega)) ?_
    rw [znat hx]
    have := zQc_step (N := 1237) (t1 := 23) (t2 := 21) ⟨T, F, he, h1, h2, hg⟩ hi (by omega) (by omega) ha ht1 ht2 (by decide) (by decide) (zreg_same (N := 1237) (by decide +kernel) hi) hm
    rw [Nat.zero_add] at this
    exact this
  · refine zh zJ_231 (i := (1, 2, 0, 0)) rfl rfl (k' := 52) (lo' := [(2, .int x), (1, .int r), (0, .ref a)]) (st' := [.int x]) (h' := h) rfl ?_
    refine zh zJ_231 (i := (0, 0, 0, 1237)) rfl rfl (k' := 53) (lo' := [(2, .int x), (1, .int r), (0, .ref a)]) (st' := [.int (Int32.ofInt (1237)), .int x]) (h' := h) rfl ?_
    refine zh_icmp zJ_231 (a := 64) (b := 3) (z := 0) rfl (fun hc => ?_) (fun hc => ?_)
    · exact kk x h q
    · exact absurd (zcmp_ge.mpr (by rw [hx, z_of32 (by omega) (by omega)]; omega)) hc
set_option maxRecDepth 100000 in
theorem zTl_231 {sx : zX} {ty0 ty : List Nat} {a d : Nat} {h0 h : zH} {r : Int32} (X : zExt ty0 ty) (T : zTY z_tt ty h) (E : zE1 ty h) (F : zFm zDm ty0 h0 h) (N : zNi h a) (ha : ty[a]? = some 20) : z_ok sx d 231 49 [(1, .int r), (0, .ref a)] [] h (zRq (fun v h' => (∃ c : Int32, v = some (.int c)) ∧ ∃ ty', zExt ty0 ty' ∧ zTY z_tt ty' h' ∧ zE1 ty' h' ∧ zFm zDm ty0 h0 h' ∧ zNi h' a)) := by
  refine zh zJ_231 (i := (0, 0, 0, 0)) rfl rfl (k' := 50) (lo' := [(1, .int r), (0, .ref a)]) (st' := [.int (Int32.ofInt (0))]) (h' := h) rfl ?_
  refine zh zJ_231 (i := (4, 2, 0, 0)) rfl rfl (k' := 51) (lo' := [(2, .int (Int32.ofInt (0))), (1, .int r), (0, .ref a)]) (st' := []) (h' := h) rfl ?_
  obtain ⟨fs, he, hl⟩ := zcell0 (c := 9) (n := 23) T ha rfl rfl rfl
  obtain ⟨w1, g1, hw1⟩ := zfd2 (b := 3) (u := 23) T ha he (by omega) (by decide +kernel)
  obtain ⟨w2, g2, hw2⟩ := zfd2 (b := 1) (u := 21) T ha he (by omega) (by decide +kernel)
  obtain ⟨f1, hf1⟩ := zcell1 (n := 1237) T hw1 rfl rfl
  obtain ⟨g, hg⟩ := zcell1 (n := 2086) T hw2 rfl rfl
  refine zLp_231b (ms := [(21, 0, 1236)]) (h0 := h) ha hw1 hw2 g1 g2 (by decide +kernel) (fun x h2 q => ?_) ⟨T, zFm.rf, he, hf1, g, hg, fun k hk => absurd hk (by omega)⟩
  obtain ⟨T2, F2, he2, hs2, g9, hd2, hcp⟩ := q
  have L1 : zLT f1 := E.2 w1 23 _ f1 hw1 (Or.inr (Or.inr rfl)) hf1
  have E2 : zE1 ty h2 := ⟨E.1, fun b9 t9 n9 f9 hb9 hz hbf => by
    rcases hz with rfl | rfl | rfl
    · have e := E.1 b9 w2 21 (by omega) (by omega) hb9 hw2
      subst e
      rw [hd2] at hbf
      cases hbf
      exact zLT_congr (fun k k1 k2 => by have := hcp k (by omega); rw [Nat.zero_add] at this; exact this) L1
    · exact zEt_keep T T2 F2 hb9 (Or.inr (Or.inl rfl)) hbf (fun i h1 h2 => znt_ok (by decide +kernel) h1 h2) E.2
    · exact zEt_keep T T2 F2 hb9 (Or.inr (Or.inr rfl)) hbf (fun i h1 h2 => znt_ok (by decide +kernel) h1 h2) E.2⟩
  refine zh zJ_231 (i := (0, 0, 0, 0)) rfl rfl (k' := 65) (lo' := [(2, .int x), (1, .int r), (0, .ref a)]) (st' := [.int (Int32.ofInt (0))]) (h' := h2) rfl ?_
  refine zh_iret zJ_231 (a := 0) (b := 0) (z := 0) rfl (Or.inl rfl) ?_
  exact ⟨_, rfl, rfl, rfl, ⟨_, rfl⟩, ty, X, T2, E2, F.tr X (F2.wide (by decide +kernel)), N.keep T2 ha F2 (zNin _ _ _ (by decide +kernel))⟩
set_option maxRecDepth 100000 in
theorem zTm_231 {sx : zX} {ty0 ty : List Nat} {a d : Nat} {h0 h : zH} {r : Int32} (X : zExt ty0 ty) (T : zTY z_tt ty h) (E : zE1 ty h) (F : zFm zDm ty0 h0 h) (N : zNi h a) (ha : ty[a]? = some 20) : z_ok sx d 231 66 [(1, .int r), (0, .ref a)] [] h (zRq (fun v h' => (∃ c : Int32, v = some (.int c)) ∧ ∃ ty', zExt ty0 ty' ∧ zTY z_tt ty' h' ∧ zE1 ty' h' ∧ zFm zDm ty0 h0 h' ∧ zNi h' a)) := by
  obtain ⟨fs, he, hl⟩ := zcell0 (c := 9) (n := 23) T ha rfl rfl rfl
  obtain ⟨w, g1, hw⟩ := zfd2 (b := 1) (u := 21) T ha he (by omega) (by decide +kernel)
  obtain ⟨g, hg⟩ := zcell1 (n := 2086) T hw rfl rfl
  have hn : w ≠ a := fun e => by rw [e, ha] at hw; cases hw
  refine zh zJ_231 (i := (2, 0, 0, 0)) rfl rfl (k' := 67) (lo' := [(1, .int r), (0, .ref a)]) (st' := [.ref a]) (h' := h) rfl ?_
  refine zh_get zJ_231 (b := 1) (c := 9) (z := 0) rfl (k' := 68) rfl he g1 ?_
  refine zh zJ_231 (i := (0, 0, 0, 2)) rfl rfl (k' := 69) (lo' := [(1, .int r), (0, .ref a)]) (st' := [.int (Int32.ofInt (2)), .ref w]) (h' := h) rfl ?_
  refine zh zJ_231 (i := (28, 0, 0, 0)) rfl rfl (k' := 70) (lo' := [(1, .int r), (0, .ref a)]) (st' := [.int (Int32.ofInt (2)), .ref w, .int (Int32.ofInt (2)), .ref w]) (h' := h) rfl ?_
  refine zh_iald zJ_231 (z := 0) rfl (k' := 71) rfl hg (by decide) (by decide) ?_
  generalize g (Int32.ofInt (2)).toNatClampNeg = u
  refine zh zJ_231 (i := (0, 0, 0, 1)) rfl rfl (k' := 72) (lo' := [(1, .int r), (0, .ref a)]) (st' := [.int (Int32.ofInt (1)), .int u, .int (Int32.ofInt (2)), .ref w]) (h' := h) rfl ?_
  refine zh zJ_231 (i := (8, 0, 0, 0)) rfl rfl (k' := 73) (lo' := [(1, .int r), (0, .ref a)]) (st' := [.int (u + (Int32.ofInt (1))), .int (Int32.ofInt (2)), .ref w]) (h' := h) rfl ?_
  obtain ⟨T6, F6⟩ := zwr (ms := [(21, 2, 3)]) T hw hg (i := 2) (x := (u + Int32.ofInt (1))) (by omega) (zst_ok (a := zFull) (ilo := 2) (ihi := 3) (by decide +kernel) (zFull_ok _) (by omega) (by omega)) (zcv_ok (lo := 2) (hi := 3) (by decide +kernel) (by omega) (by omega))
  have E6 := zE1_stable (ms := [(21, 2, 3)]) (by decide +kernel) ty h _ T T6 (T.len T6) F6 E
  have he6 := (zset_ne (h := h) (e := .inl (0, (2086, .inl (upd g 2 (u + Int32.ofInt (1)))))) hn).trans he
  have hg6 := zset_eq (e := .inl (0, (2086, .inl (upd g 2 (u + Int32.ofInt (1)))))) hg
  have N6 := N.keep T6 ha F6 (zNin _ _ _ (by decide +kernel))
  refine zh_iast zJ_231 (z := 0) rfl (k' := 74) rfl hg (by decide) (by decide) ?_
  rw [show (Int32.ofInt (2)).toNatClampNeg = 2 from by decide +kernel]
  generalize h.set w (.inl (0, (2086, .inl (upd g 2 (u + Int32.ofInt (1)))))) = h6 at T6 F6 E6 he6 hg6 N6 ⊢
  refine zh zJ_231 (i := (2, 0, 0, 0)) rfl rfl (k' := 75) (lo' := [(1, .int r), (0, .ref a)]) (st' := [.ref a]) (h' := h6) rfl ?_
  refine zh zJ_231 (i := (0, 0, 0, 0)) rfl rfl (k' := 76) (lo' := [(1, .int r), (0, .ref a)]) (st' := [.int (Int32.ofInt (0)), .ref a]) (h' := h6) rfl ?_
  refine zputT zJ_231 (k' := 77) rfl rfl T6 E6 ha he6 (by omega) (zK0 (by decide) (by decide)) (by decide +kernel) [(20, 7, 7)] (by decide +kernel) (by decide +kernel) rfl (fun h7 T7 E7 F7 he7 hq7 => ?_)
  have N7 := N6.keep T7 ha F7 (zNin _ _ _ (by decide +kernel))
  refine zh zJ_231 (i := (2, 0, 0, 0)) rfl rfl (k' := 78) (lo' := [(1, .int r), (0, .ref a)]) (st' := [.ref a]) (h' := h7) rfl ?_
  refine zh_get zJ_231 (b := 1) (c := 9) (z := 0) rfl (k' := 79) rfl he7 ((List.getElem?_set_ne (by decide)).trans g1) ?_
  refine zh zJ_231 (i := (0, 0, 0, 2)) rfl rfl (k' := 80) (lo' := [(1, .int r), (0, .ref a)]) (st' := [.int (Int32.ofInt (2)), .ref w]) (h' := h7) rfl ?_
  refine zh_iald zJ_231 (z := 0) rfl (k' := 81) rfl ((hq7 w hn).trans hg6) (by decide) (by decide) ?_
  refine zh_iret zJ_231 (a := 0) (b := 0) (z := 0) rfl (Or.inl rfl) ?_
  exact ⟨_, rfl, rfl, rfl, ⟨_, rfl⟩, ty, X, T7, E7, (F.tr X (F6.wide (by decide +kernel))).tr X (F7.wide (by decide +kernel)), N7⟩
set_option maxRecDepth 100000 in
theorem zS_231 {sx : zX} {ty : List Nat} {a d : Nat} {h : zH} (H : ∀ c, c < 273 → ∀ c', zCtl[c]? = some c' → zVd z_tt zE1 c') (hd : 26 ≤ d) (T : zTY z_tt ty h) (E : zE1 ty h) (ha : ty[a]? = some 20) : z_ok sx d 231 0 (lv_args 0 [.ref a]) [] h (zRq (fun v h' => (∃ c : Int32, v = some (.int c)) ∧ ∃ ty', zExt ty ty' ∧ zTY z_tt ty' h' ∧ zE1 ty' h' ∧ zFm zDm ty h h' ∧ zNi h' a)) := by
  show z_ok sx d 231 0 [(0, .ref a)] [] h _
  refine zh zJ_231 (i := (0, 0, 0, 0)) rfl rfl (k' := 1) (lo' := [(0, .ref a)]) (st' := [.int (Int32.ofInt (0))]) (h' := h) rfl ?_
  refine zh zJ_231 (i := (4, 1, 0, 0)) rfl rfl (k' := 2) (lo' := [(1, .int (Int32.ofInt (0))), (0, .ref a)]) (st' := []) (h' := h) rfl ?_
  obtain ⟨fs, he, hl⟩ := zcell0 (c := 9) (n := 23) T ha rfl rfl rfl
  obtain ⟨w1, g1, hw1⟩ := zfd2 (b := 1) (u := 21) T ha he (by omega) (by decide +kernel)
  obtain ⟨w2, g2, hw2⟩ := zfd2 (b := 3) (u := 23) T ha he (by omega) (by decide +kernel)
  obtain ⟨f1, hf1⟩ := zcell1 (n := 2086) T hw1 rfl rfl
  obtain ⟨g, hg⟩ := zcell1 (n := 1237) T hw2 rfl rfl
  refine zLp_231a (ms := [(23, 0, 1236)]) (h0 := h) ha hw1 hw2 g1 g2 (by decide +kernel) (fun x h2 q => ?_) ⟨T, zFm.rf, he, hf1, g, hg, fun k hk => absurd hk (by omega)⟩
  obtain ⟨T2, F2, he2, hs2, g9, hd2, hcp⟩ := q
  have L1 : zLT f1 := E.2 w1 21 _ f1 hw1 (Or.inl rfl) hf1
  have E2 : zE1 ty h2 := ⟨E.1, fun b9 t9 n9 f9 hb9 hz hbf => by
    rcases hz with rfl | rfl | rfl
    · exact zEt_keep T T2 F2 hb9 (Or.inl rfl) hbf (fun i h1 h2 => znt_ok (by decide +kernel) h1 h2) E.2
    · exact zEt_keep T T2 F2 hb9 (Or.inr (Or.inl rfl)) hbf (fun i h1 h2 => znt_ok (by decide +kernel) h1 h2) E.2
    · have e := E.1 b9 w2 23 (by omega) (by omega) hb9 hw2
      subst e
      rw [hd2] at hbf
      cases hbf
      exact zLT_congr (fun k k1 k2 => by have := hcp k (by omega); rw [Nat.zero_add] at this; exact this) L1⟩
  refine zh zJ_231 (i := (2, 0, 0, 0)) rfl rfl (k' := 16) (lo' := [(1, .int x), (0, .ref a)]) (st' := [.ref a]) (h' := h2) rfl ?_
  refine zh zJ_231 (i := (0, 0, 0, 1)) rfl rfl (k' := 17) (lo' := [(1, .int x), (0, .ref a)]) (st' := [.int (Int32.ofInt (1)), .ref a]) (h' := h2) rfl ?_
  refine zh_run (rest := []) (as := [.ref a, .int (Int32.ofInt (1))]) zJ_231 (i := (54, 230, 1, 9)) rfl (by decide) (zcal54 (xs := [.int (Int32.ofInt (1))]) (by omega) rfl rfl he2 rfl (Nat.le_of_ble_eq_true rfl) (M' := z_m230) rfl (Nat.le_of_ble_eq_true rfl)) (zS_230t H (by omega) T2 E2 ha) (fun o hh x y q => ?_)
  obtain ⟨v, rfl, rfl, rfl, ⟨c, rfl⟩, ty', X, T3, E3, F3, N3⟩ := q
  refine ⟨_, rfl, rfl, rfl, ?_⟩
  have F0 : zFm zDm ty h hh := (F2.wide (by decide +kernel)).tr zExt.rf F3
  have ha' := X a 20 ha
  obtain ⟨gs, hgs, hlg⟩ := zcell0 (c := 9) (n := 23) T3 ha' rfl rfl rfl
  show z_ok sx d 231 18 [(1, .int x), (0, .ref a)] [.int c] hh _
  refine zh zJ_231 (i := (4, 1, 0, 0)) rfl rfl (k' := 19) (lo' := [(1, .int c), (0, .ref a)]) (st' := []) (h' := hh) rfl ?_
  refine zh zJ_231 (i := (2, 0, 0, 0)) rfl rfl (k' := 20) (lo' := [(1, .int c), (0, .ref a)]) (st' := [.ref a]) (h' := hh) rfl ?_
  refine zh zJ_231 (i := (1, 1, 0, 0)) rfl rfl (k' := 21) (lo' := [(1, .int c), (0, .ref a)]) (st' := [.int c, .ref a]) (h' := hh) rfl ?_
  refine zh_if zJ_231 (a := 25) (b := 3) (z := 0) rfl (fun hc1 => ?_) (fun hc1 => ?_)
  · refine zh zJ_231 (i := (0, 0, 0, -1)) rfl rfl (k' := 26) (lo' := [(1, .int c), (0, .ref a)]) (st' := [.int (Int32.ofInt (-1)), .ref a]) (h' := hh) rfl ?_
    refine zputT zJ_231 (k' := 27) rfl rfl T3 E3 ha' hgs (by omega) (zK0 (by decide) (by decide)) (by decide +kernel) [(20, 14, 14)] (by decide +kernel) (by decide +kernel) rfl (fun h4 T4 E4 F4 he4 hq4 => ?_)
    have N4 := N3.keep T4 ha' F4 (zNin _ _ _ (by decide +kernel))
    have F04 := F0.tr X (F4.wide (ms' := zDm) (by decide +kernel))
    refine zh zJ_231 (i := (2, 0, 0, 0)) rfl rfl (k' := 28) (lo' := [(1, .int c), (0, .ref a)]) (st' := [.ref a]) (h' := h4) rfl ?_
    refine zh zJ_231 (i := (1, 1, 0, 0)) rfl rfl (k' := 29) (lo' := [(1, .int c), (0, .ref a)]) (st' := [.int c, .ref a]) (h' := h4) rfl ?_
    refine zh_if zJ_231 (a := 32) (b := 3) (z := 0) rfl (fun hc2 => ?_) (fun hc2 => ?_)
    · refine zh zJ_231 (i := (0, 0, 0, 0)) rfl rfl (k' := 33) (lo' := [(1, .int c), (0, .ref a)]) (st' := [.int (Int32.ofInt (0)), .ref a]) (h' := h4) rfl ?_
      refine zh zJ_231 (i := (0, 0, 0, 1)) rfl rfl (k' := 34) (lo' := [(1, .int c), (0, .ref a)]) (st' := [.int (Int32.ofInt (1)), .int (Int32.ofInt (0)), .ref a]) (h' := h4) rfl ?_
      refine zh_run (rest := []) (as := [.ref a, .int (Int32.ofInt (0)), .int (Int32.ofInt (1))]) zJ_231 (i := (54, 176, 2, 9)) rfl (by decide) (zcal54 (xs := [.int (Int32.ofInt (1)), .int (Int32.ofInt (0))]) (by omega) rfl rfl he4 rfl (Nat.le_of_ble_eq_true rfl) (M' := z_m176) rfl (Nat.le_of_ble_eq_true rfl)) (zS_176a _) (fun o hh x y q => ?_)
      obtain ⟨v, rfl, rfl, rfl, rfl, rfl⟩ := q
      refine ⟨_, rfl, rfl, rfl, ?_⟩
      show z_ok sx d 231 35 [(1, .int c), (0, .ref a)] [.int (Int32.ofInt (0))] hh _
      refine zh_if zJ_231 (a := 49) (b := 1) (z := 0) rfl (fun hc3 => ?_) (fun hc3 => ?_)
      · exact absurd hc3 (by decide)
      · obtain ⟨ks, hks, hlk⟩ := zcell0 (c := 9) (n := 23) T4 ha' rfl rfl rfl
        obtain ⟨w, k1, hw⟩ := zfd2 (b := 1) (u := 21) T4 ha' hks (by omega) (by decide +kernel)
        obtain ⟨wf, hwf⟩ := zcell1 (n := 2086) T4 hw rfl rfl
        refine zh zJ_231 (i := (2, 0, 0, 0)) rfl rfl (k' := 37) (lo' := [(1, .int c), (0, .ref a)]) (st' := [.ref a]) (h' := hh) rfl ?_
        refine zh zJ_231 (i := (2, 0, 0, 0)) rfl rfl (k' := 38) (lo' := [(1, .int c), (0, .ref a)]) (st' := [.ref a, .ref a]) (h' := hh) rfl ?_
        refine zh_get zJ_231 (b := 1) (c := 9) (z := 0) rfl (k' := 39) rfl hks k1 ?_
        refine zh zJ_231 (i := (0, 0, 0, 2)) rfl rfl (k' := 40) (lo' := [(1, .int c), (0, .ref a)]) (st' := [.int (Int32.ofInt (2)), .ref w, .ref a]) (h' := hh) rfl ?_
        refine zh_iald zJ_231 (z := 0) rfl (k' := 41) rfl hwf (by decide) (by decide) ?_
        generalize wf (Int32.ofInt (2)).toNatClampNeg = u
        refine zh zJ_231 (i := (0, 0, 0, 12)) rfl rfl (k' := 42) (lo' := [(1, .int c), (0, .ref a)]) (st' := [.int (Int32.ofInt (12)), .int u, .ref a]) (h' := hh) rfl ?_
        refine zh_icmp zJ_231 (a := 45) (b := 1) (z := 0) rfl (fun hc4 => ?_) (fun hc4 => ?_)
        · refine zh zJ_231 (i := (0, 0, 0, 0)) rfl rfl (k' := 46) (lo' := [(1, .int c), (0, .ref a)]) (st' := [.int (Int32.ofInt (0)), .ref a]) (h' := hh) rfl ?_
          refine zh zJ_231 (i := (0, 0, 0, 2)) rfl rfl (k' := 47) (lo' := [(1, .int c), (0, .ref a)]) (st' := [.int (Int32.ofInt (2)), .int (Int32.ofInt (0)), .ref a]) (h' := hh) rfl ?_
          refine zh_run (rest := []) (as := [.ref a, .int (Int32.ofInt (0)), .int (Int32.ofInt (2))]) zJ_231 (i := (54, 176, 2, 9)) rfl (by decide) (zcal54 (xs := [.int (Int32.ofInt (2)), .int (Int32.ofInt (0))]) (by omega) rfl rfl hks rfl (Nat.le_of_ble_eq_true rfl) (M' := z_m176) rfl (Nat.le_of_ble_eq_true rfl)) (zS_176a _) (fun o hh x y q => ?_)
          obtain ⟨v, rfl, rfl, rfl, rfl, rfl⟩ := q
          refine ⟨_, rfl, rfl, rfl, ?_⟩
          show z_ok sx d 231 48 [(1, .int c), (0, .ref a)] [.int (Int32.ofInt (0))] hh _
          refine zh_if zJ_231 (a := 66) (b := 0) (z := 0) rfl (fun hc5 => ?_) (fun hc5 => ?_)
          · exact zTm_231 X T4 E4 F04 N4 ha'
          · exact absurd (show z_cmp 0 (Int32.ofInt (0)) 0 = true from rfl) hc5
        · refine zh zJ_231 (i := (0, 0, 0, 1)) rfl rfl (k' := 44) (lo' := [(1, .int c), (0, .ref a)]) (st' := [.int (Int32.ofInt (1)), .ref a]) (h' := hh) rfl ?_
          refine zh zJ_231 (i := (30, 46, 0, 0)) rfl rfl (k' := 46) (lo' := [(1, .int c), (0, .ref a)]) (st' := [.int (Int32.ofInt (1)), .ref a]) (h' := hh) rfl ?_
          refine zh zJ_231 (i := (0, 0, 0, 2)) rfl rfl (k' := 47) (lo' := [(1, .int c), (0, .ref a)]) (st' := [.int (Int32.ofInt (2)), .int (Int32.ofInt (1)), .ref a]) (h' := hh) rfl ?_
          refine zh_run (rest := []) (as := [.ref a, .int (Int32.ofInt (1)), .int (Int32.ofInt (2))]) zJ_231 (i := (54, 176, 2, 9)) rfl (by decide) (zcal54 (xs := [.int (Int32.ofInt (2)), .int (Int32.ofInt (1))]) (by omega) rfl rfl hks rfl (Nat.le_of_ble_eq_true rfl) (M' := z_m176) rfl (Nat.le_of_ble_eq_true rfl)) (zS_176b _ T4 E4 ha') (fun o hh x y q => ?_)
          obtain ⟨v, rfl, rfl, rfl, rfl, T8, E8, F8⟩ := q
          refine ⟨_, rfl, rfl, rfl, ?_⟩
          show z_ok sx d 231 48 [(1, .int c), (0, .ref a)] [.int (Int32.ofInt (1))] hh _
          have N8 := N4.keep T8 ha' F8 (zNin _ _ _ (by decide +kernel))
          refine zh_if zJ_231 (a := 66) (b := 0) (z := 0) rfl (fun hc6 => ?_) (fun hc6 => ?_)
          · exact absurd hc6 (by decide)
          · exact zTl_231 X T8 E8 (F04.tr X (F8.wide (by decide +kernel))) N8 ha'
    · exact absurd hc1 hc2
  · obtain ⟨x12, g12, -⟩ := zfd0 (b := 12) (lo := 0) (hi := 400) T3 ha' hgs (by omega) (by decide +kernel)
    refine zh zJ_231 (i := (2, 0, 0, 0)) rfl rfl (k' := 23) (lo' := [(1, .int c), (0, .ref a)]) (st' := [.ref a, .ref a]) (h' := hh) rfl ?_
    refine zh_get zJ_231 (b := 12) (c := 9) (z := 0) rfl (k' := 24) rfl hgs g12 ?_
    refine zh zJ_231 (i := (30, 26, 0, 0)) rfl rfl (k' := 26) (lo' := [(1, .int c), (0, .ref a)]) (st' := [.int x12, .ref a]) (h' := hh) rfl ?_
    refine zputT zJ_231 (k' := 27) rfl rfl T3 E3 ha' hgs (by omega) (zFull_ok x12) (by decide +kernel) [(20, 14, 14)] (by decide +kernel) (by decide +kernel) rfl (fun h4 T4 E4 F4 he4 hq4 => ?_)
    have N4 := N3.keep T4 ha' F4 (zNin _ _ _ (by decide +kernel))
    refine zh zJ_231 (i := (2, 0, 0, 0)) rfl rfl (k' := 28) (lo' := [(1, .int c), (0, .ref a)]) (st' := [.ref a]) (h' := h4) rfl ?_
    refine zh zJ_231 (i := (1, 1, 0, 0)) rfl rfl (k' := 29) (lo' := [(1, .int c), (0, .ref a)]) (st' := [.int c, .ref a]) (h' := h4) rfl ?_
    refine zh_if zJ_231 (a := 32) (b := 3) (z := 0) rfl (fun hc7 => ?_) (fun hc7 => ?_)
    · exact absurd hc7 hc1
    · refine zh zJ_231 (i := (0, 0, 0, 1)) rfl rfl (k' := 31) (lo' := [(1, .int c), (0, .ref a)]) (st' := [.int (Int32.ofInt (1)), .ref a]) (h' := h4) rfl ?_
      refine zh zJ_231 (i := (30, 33, 0, 0)) rfl rfl (k' := 33) (lo' := [(1, .int c), (0, .ref a)]) (st' := [.int (Int32.ofInt (1)), .ref a]) (h' := h4) rfl ?_
      refine zh zJ_231 (i := (0, 0, 0, 1)) rfl rfl (k' := 34) (lo' := [(1, .int c), (0, .ref a)]) (st' := [.int (Int32.ofInt (1)), .int (Int32.ofInt (1)), .ref a]) (h' := h4) rfl ?_
      refine zh_run (rest := []) (as := [.ref a, .int (Int32.ofInt (1)), .int (Int32.ofInt (1))]) zJ_231 (i := (54, 176, 2, 9)) rfl (by decide) (zcal54 (xs := [.int (Int32.ofInt (1)), .int (Int32.ofInt (1))]) (by omega) rfl rfl he4 rfl (Nat.le_of_ble_eq_true rfl) (M' := z_m176) rfl (Nat.le_of_ble_eq_true rfl)) (zS_176b _ T4 E4 ha') (fun o hh x y q => ?_)
      obtain ⟨v, rfl, rfl, rfl, rfl, T5, E5, F5⟩ := q
      refine ⟨_, rfl, rfl, rfl, ?_⟩
      show z_ok sx d 231 35 [(1, .int c), (0, .ref a)] [.int (Int32.ofInt (1))] hh _
      have N5 := N4.keep T5 ha' F5 (zNin _ _ _ (by decide +kernel))
      refine zh_if zJ_231 (a := 49) (b := 1) (z := 0) rfl (fun hc8 => ?_) (fun hc8 => ?_)
      · exact zTl_231 X T5 E5 ((F0.tr X (F4.wide (by decide +kernel))).tr X (F5.wide (by decide +kernel))) N5 ha'
      · exact absurd (show z_cmp 1 (Int32.ofInt (1)) 0 = true from rfl) hc8
