section
/-! the reference's deed; printed with wip/gen/gen_rd6.py -/
noncomputable def zX2 : zCut := (2, [(0, (2, 20, 20)), (1, (0, 1, 1))], [], [(0, 0, 0, 2), (0, 0, 0, 0), (0, 0, 0, 0)])
noncomputable def zX16 : zCut := (16, [(0, (2, 20, 20)), (1, (0, 1, 1)), (2, (0, 0, 14))], [(0, 10, (0, 0, 400)), (0, 11, (0, 0, 400)), (0, 16, (0, 0, 0))], [(0, 0, 0, 1), (1, 2, 0, 14), (0, 0, 0, 1)])
noncomputable def zC_ra : zCt := (230, [(2, 20, 20), (0, 1, 1)], [(0, -1, 14)], [], [(20, 10, 10), (20, 12, 12), (20, 16, 16), (21, 0, 1), (21, 4, 4), (21, 10, 13), (21, 16, 87)], 24, (0, 0, 0, 0), [zX2, zX16])
theorem zK_ra2 : zx z_tt zCtl zCand 273 zC_ra (some zX2) 4000 (zc_st zC_ra zX2) = true := by decide +kernel
theorem zK_ra16 : zx z_tt zCtl zCand 273 zC_ra (some zX16) 4000 (zc_st zC_ra zX16) = true := by decide +kernel
noncomputable def zDm : List zMod := [(20, 0, 0), (20, 7, 7), (20, 9, 14), (20, 16, 16), (21, 0, 1236), (23, 0, 1236)]
theorem zNi.keep' {ms : List zMod} {ty ty' : List Nat} {h h' : zH} {a : Nat} (T' : zTY z_tt ty' h') (X : zExt ty ty') (ha : ty[a]? = some 20) (F : zFm ms ty h h') (hm : ¬ zIn ms 20 9) (H : zNi h a) : zNi h' a := by
  obtain ⟨fs, he, h9⟩ := H
  obtain ⟨fs', he', hl'⟩ := zcell0 (c := 9) (n := 23) T' (X a 20 ha) rfl rfl rfl
  have := F.2 a 20 _ _ ha he he' 9 hm
  exact ⟨fs', he', this.trans h9⟩
set_option maxRecDepth 100000 in
theorem zS_230t {sx : zX} {ty : List Nat} {a d : Nat} {h : zH} (H : ∀ c, c < 273 → ∀ c', zCtl[c]? = some c' → zVd z_tt zE1 c') (hd : 24 ≤ d) (T : zTY z_tt ty h) (E : zE1 ty h) (ha : ty[a]? = some 20) : z_ok sx d 230 0 (lv_args 0 [.ref a, .int (Int32.ofInt (1))]) [] h (zRq (fun v h' => (∃ c : Int32, v = some (.int c)) ∧ ∃ ty', zExt ty ty' ∧ zTY z_tt ty' h' ∧ zE1 ty' h' ∧ zFm zDm ty h h' ∧ zNi h' a)) := by
  show z_ok sx d 230 0 [(0, .ref a), (1, .int (Int32.ofInt (1)))] [] h _
  refine zh zJ_230 (i := (2, 0, 0, 0)) rfl rfl (k' := 1) (lo' := [(0, .ref a), (1, .int (Int32.ofInt (1)))]) (st' := [.ref a]) (h' := h) rfl ?_
  obtain ⟨fs, he, hl⟩ := zcell0 (c := 9) (n := 23) T ha rfl rfl rfl
  refine zh_run (rest := []) (as := [.ref a]) zJ_230 (i := (54, 210, 0, 9)) rfl (by decide) (zcal54 (xs := []) (by omega) rfl rfl he rfl (Nat.le_of_ble_eq_true rfl) (M' := z_m210) rfl (Nat.le_of_ble_eq_true rfl)) (zS_210 T E ha) (fun o hh x y q => ?_)
  obtain ⟨v, rfl, rfl, rfl, rfl, T1, E1, F1, N1⟩ := q
  refine ⟨_, rfl, rfl, rfl, ?_⟩
  have hgo := zcut_ok (sx := sx) (d0 := d) (ty0 := ty) (h0 := hh) (ct := zC_ra) (own := 273) (cts := zCtl) (cand := zCand) (N := 3) (fuel := 4000) (zE1_stable (by decide +kernel)) hd (fun c hc c' hc' => H c hc c' hc') (by decide +kernel) (fun c hc => by
    rcases List.mem_cons.mp hc with rfl | hc
    · exact zK_ra2
    · rw [List.mem_singleton.mp hc]; exact zK_ra16) (zX2.2.2.2.map (zmc [(0, .ref a), (1, .int (Int32.ofInt (1)))] hh)) rfl zX2 List.mem_cons_self ty [(0, .ref a), (1, .int (Int32.ofInt (1)))] hh [.ref a, .int (Int32.ofInt (1))] [] rfl zExt.rf T1 E1 zFm.rf ⟨rfl, ⟨a, 20, rfl, ha, Int.le_refl _, Int.le_refl _⟩, rfl, ⟨_, rfl, by decide, by decide⟩, trivial⟩ trivial
  refine z_ok.imp hgo (fun o h2 x y q => ?_)
  have q : zPo z_tt zE1 zC_ra ty hh o h2 (x + 0) (y + 0) := q
  obtain ⟨ty', X, T2, E2, F2, q⟩ := q
  cases o with
  | inr e => exact absurd q.1 List.not_mem_nil
  | inl v =>
  obtain ⟨q1, q2, q3⟩ := q
  have q2 : x + 0 ≤ 0 := q2
  have q3 : y + 0 ≤ 0 := q3
  cases v with
  | none => exact q1.elim
  | some v =>
  obtain ⟨c, rfl, c1, c2⟩ := q1
  exact ⟨_, rfl, by omega, by omega, ⟨c, rfl⟩, ty', X, T2, E2, (F1.wide (by decide +kernel)).tr zExt.rf (F2.wide (by decide +kernel)), N1.keep' T2 X ha F2 (zNin _ _ _ (by decide +kernel))⟩
theorem zJ_231 : zJ3 231 z_m231 z_c231 z_h231 := ⟨rfl, rfl, rfl⟩
set_option maxRecDepth 100000 in
theorem zLp_231a {sx : zX} {d : Nat} {Ψ : zO → zH → Nat → Nat → Prop} {ty : List Nat} {h0 : zH} {a w1 w2 : Nat} {gs : List Value} {f1 : Nat → Int32} {ms : List zMod} (ha : ty[a]? = some 20) (ht1 : ty[w1]? = some 21) (ht2 : ty[w2]? = some 23) (hg1 : gs[1]? = some (.ref w1)) (hg3 : gs[3]? = some (.ref w2)) (hm : zcv ms 23 ((0 : Nat) : Int) (((0 + 1237 : Nat) : Int) - 1) = true) (kk : ∀ (x : Int32) (h : zH), zQc ty h0 a gs w1 2086 f1 w2 1237 ms 0 0 1237 h → z_ok sx d 231 15 [(1, .int x), (0, .ref a)] [] h Ψ) {h : zH} (q : zQc ty h0 a gs w1 2086 f1 w2 1237 ms 0 0 0 h) : z_ok sx d 231 2 [(1, .int (Int32.ofInt (0))), (0, .ref a)] [] h Ψ := by
  refine zloop (fun x => [(1, .int x), (0, .ref a)]) 1237 (zQc ty h0 a gs w1 2086 f1 w2 1237 ms 0 0) (fun i x h hx hi q kk => ?_) (fun x h hx q => ?_) 1237 0 _ h rfl rfl q
  · obtain ⟨T, F, he, h1, g, h2, hg⟩ := q
    refine zh zJ_231 (i := (1, 1, 0, 0)) rfl rfl (k' := 3) (lo' := [(1, .int x), (0, .ref a)]) (st' := [.int x]) (h' := h) rfl ?_
    refine zh zJ_231 (i := (0, 0, 0, 1237)) rfl rfl (k' := 4) (lo' := [(1, .int x), (0, .ref a)]) (st' := [.int (Int32.ofInt (1237)), .int x]) (h' := h) rfl ?_
    refine zh_icmp zJ_231 (a := 15) (b := 3) (z := 0) rfl (fun hc => ?_) (fun hc => ?_)
    · exact absurd (zcmp_ge.mp hc) (by rw [hx, z_of32 (by omega) (by omega)]; omega)
    refine zh zJ_231 (i := (2, 0, 0, 0)) rfl rfl (k' := 6) (lo' := [(1, .int x), (0, .ref a)]) (st' := [.ref a]) (h' := h) rfl ?_
    refine zh_get zJ_231 (a := a) (b := 3) (c := 9) (z := 0) rfl (k' := 7) rfl he hg3 ?_
    refine zh zJ_231 (i := (1, 1, 0, 0)) rfl rfl (k' := 8) (lo' := [(1, .int x), (0, .ref a)]) (st' := [.int x, .ref w2]) (h' := h) rfl ?_
    refine zh zJ_231 (i := (2, 0, 0, 0)) rfl rfl (k' := 9) (lo' := [(1, .int x), (0, .ref a)]) (st' := [.ref a, .int x, .ref w2]) (h' := h) rfl ?_
    refine zh_get zJ_231 (a := a) (b := 1) (c := 9) (z := 0) rfl (k' := 10) rfl he hg1 ?_
    refine zh zJ_231 (i := (1, 1, 0, 0)) rfl rfl (k' := 11) (lo' := [(1, .int x), (0, .ref a)]) (st' := [.int x, .ref w1, .int x, .ref w2]) (h' := h) rfl ?_
    refine zh_iald zJ_231 (z := 0) rfl (k' := 12) rfl h1 (by omega) (by omega) ?_
    refine zh_iast zJ_231 (z := 0) rfl (k' := 13) rfl h2 (by omega) (by omega) ?_
    refine zh zJ_231 (i := (7, 1, 0, 1)) rfl rfl (k' := 14) (lo' := [(1, .int (x + Int32.ofInt (1))), (0, .ref a)]) (st' := []) (h' := (h.set w2 (.inl (0, (1237, .inl (upd g x.toNatClampNeg (f1 x.toNatClampNeg))))))) rfl ?_
    refine zh zJ_231 (i := (30, 2, 0, 0)) rfl rfl (k' := 2) (lo' := [(1, .int (x + Int32.ofInt (1))), (0, .ref a)]) (st' := []) (h' := (h.set w2 (.inl (0, (1237, .inl (upd g x.toNatClampNeg (f1 x.toNatClampNeg))))))) rfl ?_
    refine kk _ _ (zinc hx (by omega)) ?_
    rw [znat hx]
    have := zQc_step (N := 1237) (t1 := 21) (t2 := 23) ⟨T, F, he, h1, h2, hg⟩ hi (by omega) (by omega) ha ht1 ht2 (by decide) (by decide) (zreg_same (N := 1237) (by decide +kernel) hi) hm
    rw [Nat.zero_add] at this
    exact this
  · refine zh zJ_231 (i := (1, 1, 0, 0)) rfl rfl (k' := 3) (lo' := [(1, .int x), (0, .ref a)]) (st' := [.int x]) (h' := h) rfl ?_
    refine zh zJ_231 (i := (0, 0, 0, 1237)) rfl rfl (k' := 4) (lo' := [(1, .int x), (0, .ref a)]) (st' := [.int (Int32.ofInt (1237)), .int x]) (h' := h) rfl ?_
    refine zh_icmp zJ_231 (a := 15) (b := 3) (z := 0) rfl (fun hc => ?_) (fun hc => ?_)
    · exact kk x h q
    · exact absurd (zcmp_ge.mpr (by rw [hx, z_of32 (by omega) (by omega)]; omega)) hc
set_option maxRecDepth 100000 in
theorem zLp_231b {sx : zX} {d : Nat} {r : Int32} {Ψ : zO → zH → Nat → Nat → Prop} {ty : List Nat} {h0 : zH} {a w1 w2 : Nat} {gs : List Value} {f1 : Nat → Int32} {ms : List zMod} (ha : ty[a]? = some 20) (ht1 : ty[w1]? = some 23) (ht2 : ty[w2]? = some 21) (hg3 : gs[3]? = some (.ref w1)) (hg1 : gs[1]? = some (.ref w2)) (hm : zcv ms 21 ((0 : Nat) : Int) (((0 + 1237 : Nat) : Int) - 1) = true) (kk : ∀ (x : Int32) (h : zH), zQc ty h0 a gs w1 1237 f1 w2 2086 ms 0 0 1237 h → z_ok sx d 231 64 [(2, .int x), (1, .int r), (0, .ref a)] [] h Ψ) {h : zH} (q : zQc ty h0 a gs w1 1237 f1 w2 2086 ms 0 0 0 h) : z_ok sx d 231 51 [(2, .int (Int32.ofInt (0))), (1, .int r), (0, .ref a)] [] h Ψ := by
  refine zloop (fun x => [(2, .int x), (1, .int r), (0, .ref a)]) 1237 (zQc ty h0 a gs w1 1237 f1 w2 2086 ms 0 0) (fun i x h hx hi q kk => ?_) (fun x h hx q => ?_) 1237 0 _ h rfl rfl q
  · obtain ⟨T, F, he, h1, g, h2, hg⟩ := q
    refine zh zJ_231 (i := (1, 2, 0, 0)) rfl rfl (k' := 52) (lo' := [(2, .int x), (1, .int r), (0, .ref a)]) (st' := [.int x]) (h' := h) rfl ?_
    refine zh zJ_231 (i := (0, 0, 0, 1237)) rfl rfl (k' := 53) (lo' := [(2, .int x), (1, .int r), (0, .ref a)]) (st' := [.int (Int32.ofInt (1237)), .int x]) (h' := h) rfl ?_
    refine zh_icmp zJ_231 (a := 64) (b := 3) (z := 0) rfl (fun hc => ?_) (fun hc => ?_)
    · exact absurd (zcmp_ge.mp hc) (by rw [hx, z_of32 (by omega) (by omega)]; omega)
    refine zh zJ_231 (i := (2, 0, 0, 0)) rfl rfl (k' := 55) (lo' := [(2, .int x), (1, .int r), (0, .ref a)]) (st' := [.ref a]) (h' := h) rfl ?_
    refine zh_get zJ_231 (a := a) (b := 1) (c := 9) (z := 0) rfl (k' := 56) rfl he hg1 ?_
    refine zh zJ_231 (i := (1, 2, 0, 0)) rfl rfl (k' := 57) (lo' := [(2, .int x), (1, .int r), (0, .ref a)]) (st' := [.int x, .ref w2]) (h' := h) rfl ?_
    refine zh zJ_231 (i := (2, 0, 0, 0)) rfl rfl (k' := 58) (lo' := [(2, .int x), (1, .int r), (0, .ref a)]) (st' := [.ref a, .int x, .ref w2]) (h' := h) rfl ?_
    refine zh_get zJ_231 (a := a) (b := 3) (c := 9) (z := 0) rfl (k' := 59) rfl he hg3 ?_
    refine zh zJ_231 (i := (1, 2, 0, 0)) rfl rfl (k' := 60) (lo' := [(2, .int x), (1, .int r), (0, .ref a)]) (st' := [.int x, .ref w1, .int x, .ref w2]) (h' := h) rfl ?_
    refine zh_iald zJ_231 (z := 0) rfl (k' := 61) rfl h1 (by omega) (by omega) ?_
    refine zh_iast zJ_231 (z := 0) rfl (k' := 62) rfl h2 (by omega) (by omega) ?_
    refine zh zJ_231 (i := (7, 2, 0, 1)) rfl rfl (k' := 63) (lo' := [(2, .int (x + Int32.ofInt (1))), (1, .int r), (0, .ref a)]) (st' := []) (h' := (h.set w2 (.inl (0, (2086, .inl (upd g x.toNatClampNeg (f1 x.toNatClampNeg))))))) rfl ?_
    refine zh zJ_231 (i := (30, 51, 0, 0)) rfl rfl (k' := 51) (lo' := [(2, .int (x + Int32.ofInt (1))), (1, .int r), (0, .ref a)]) (st' := []) (h' := (h.set w2 (.inl (0, (2086, .inl (upd g x.toNatClampNeg (f1 x.toNatClampNeg))))))) rfl ?_
    refine kk _ _ (zinc hx (by omega)) ?_
    rw [znat hx]
    have := zQc_step (N := 1237) (t1 := 23) (t2 := 21) ⟨T, F, he, h1, h2, hg⟩ hi (by omega) (by omega) ha ht1 ht2 (by decide) (by decide) (zreg_same (N := 1237) (by decide +kernel) hi) hm
    rw [Nat.zero_add] at this
    exact this
  · refine zh zJ_231 (i := (1, 2, 0, 0)) rfl rfl (k' := 52) (lo' := [(2, .int x), (1, .int r), (0, .ref a)]) (st' := [.int x]) (h' := h) rfl ?_
    refine zh zJ_231 (i := (0, 0, 0, 1237)) rfl rfl (k' := 53) (lo' := [(2, .int x), (1, .int r), (0, .ref a)]) (st' := [.int (Int32.ofInt (1237)), .int x]) (h' := h) rfl ?_
    refine zh_icmp zJ_231 (a := 64) (b := 3) (z := 0) rfl (fun hc => ?_) (fun hc => ?_)
    · exact kk x h q
    · exact absurd (zcmp_ge.mpr (by rw [hx, z_of32 (by omega) (by omega)]; omega)) hc
set_option maxRecDepth 100000 in
theorem zTl_231 {sx : zX} {ty0 ty : List Nat} {a d : Nat} {h0 h : zH} {r : Int32} (X : zExt ty0 ty) (T : zTY z_tt ty h) (E : zE1 ty h) (F : zFm zDm ty0 h0 h) (N : zNi h a) (ha : ty[a]? = some 20) : z_ok sx d 231 49 [(1, .int r), (0, .ref a)] [] h (zRq (fun v h' => (∃ c : Int32, v = some (.int c)) ∧ ∃ ty', zExt ty0 ty' ∧ zTY z_tt ty' h' ∧ zE1 ty' h' ∧ zFm zDm ty0 h0 h' ∧ zNi h' a)) := by
  refine zh zJ_231 (i := (0, 0, 0, 0)) rfl rfl (k' := 50) (lo' := [(1, .int r), (0, .ref a)]) (st' := [.int (Int32.ofInt (0))]) (h' := h) rfl ?_
  refine zh zJ_231 (i := (4, 2, 0, 0)) rfl rfl (k' := 51) (lo' := [(2, .int (Int32.ofInt (0))), (1, .int r), (0, .ref a)]) (st' := []) (h' := h) rfl ?_
  obtain ⟨fs, he, hl⟩ := zcell0 (c := 9) (n := 23) T ha rfl rfl rfl
  obtain ⟨w1, g1, hw1⟩ := zfd2 (b := 3) (u := 23) T ha he (by omega) (by decide +kernel)
  obtain ⟨w2, g2, hw2⟩ := zfd2 (b := 1) (u := 21) T ha he (by omega) (by decide +kernel)
  obtain ⟨f1, hf1⟩ := zcell1 (n := 1237) T hw1 rfl rfl
  obtain ⟨g, hg⟩ := zcell1 (n := 2086) T hw2 rfl rfl
  refine zLp_231b (ms := [(21, 0, 1236)]) (h0 := h) ha hw1 hw2 g1 g2 (by decide +kernel) (fun x h2 q => ?_) ⟨T, zFm.rf, he, hf1, g, hg, fun k hk => absurd hk (by omega)⟩
  obtain ⟨T2, F2, he2, hs2, g9, hd2, hcp⟩ := q
  have L1 : zLT f1 := E.2 w1 23 _ f1 hw1 (Or.inr (Or.inr rfl)) hf1
  have E2 : zE1 ty h2 := ⟨E.1, fun b9 t9 n9 f9 hb9 hz hbf => by
    rcases hz with rfl | rfl | rfl
    · have e := E.1 b9 w2 21 (by omega) (by omega) hb9 hw2
      subst e
      rw [hd2] at hbf
      cases hbf
      exact zLT_congr (fun k k1 k2 => by have := hcp k (by omega); rw [Nat.zero_add] at this; exact this) L1
    · exact zEt_keep T T2 F2 hb9 (Or.inr (Or.inl rfl)) hbf (fun i h1 h2 => znt_ok (by decide +kernel) h1 h2) E.2
    · exact zEt_keep T T2 F2 hb9 (Or.inr (Or.inr rfl)) hbf (fun i h1 h2 => znt_ok (by decide +kernel) h1 h2) E.2⟩
  refine zh zJ_231 (i := (0, 0, 0, 0)) rfl rfl (k' := 65) (lo' := [(2, .int x), (1, .int r), (0, .ref a)]) (st' := [.int (Int32.ofInt (0))]) (h' := h2) rfl ?_
  refine zh_iret zJ_231 (a := 0) (b := 0) (z := 0) rfl (Or.inl rfl) ?_
  exact ⟨_, rfl, rfl, rfl, ⟨_, rfl⟩, ty, X, T2, E2, F.tr X (F2.wide (by decide +kernel)), N.keep T2 ha F2 (zNin _ _ _ (by decide +kernel))⟩
set_option maxRecDepth 100000 in
theorem zTm_231 {sx : zX} {ty0 ty : List Nat} {a d : Nat} {h0 h : zH} {r : Int32} (X : zExt ty0 ty) (T : zTY z_tt ty h) (E : zE1 ty h) (F : zFm zDm ty0 h0 h) (N : zNi h a) (ha : ty[a]? = some 20) : z_ok sx d 231 66 [(1, .int r), (0, .ref a)] [] h (zRq (fun v h' => (∃ c : Int32, v = some (.int c)) ∧ ∃ ty', zExt ty0 ty' ∧ zTY z_tt ty' h' ∧ zE1 ty' h' ∧ zFm zDm ty0 h0 h' ∧ zNi h' a)) := by
  obtain ⟨fs, he, hl⟩ := zcell0 (c := 9) (n := 23) T ha rfl rfl rfl
  obtain ⟨w, g1, hw⟩ := zfd2 (b := 1) (u := 21) T ha he (by omega) (by decide +kernel)
  obtain ⟨g, hg⟩ := zcell1 (n := 2086) T hw rfl rfl
  have hn : w ≠ a := fun e => by rw [e, ha] at hw; cases hw
  refine zh zJ_231 (i := (2, 0, 0, 0)) rfl rfl (k' := 67) (lo' := [(1, .int r), (0, .ref a)]) (st' := [.ref a]) (h' := h) rfl ?_
  refine zh_get zJ_231 (b := 1) (c := 9) (z := 0) rfl (k' := 68) rfl he g1 ?_
  refine zh zJ_231 (i := (0, 0, 0, 2)) rfl rfl (k' := 69) (lo' := [(1, .int r), (0, .ref a)]) (st' := [.int (Int32.ofInt (2)), .ref w]) (h' := h) rfl ?_
  refine zh zJ_231 (i := (28, 0, 0, 0)) rfl rfl (k' := 70) (lo' := [(1, .int r), (0, .ref a)]) (st' := [.int (Int32.ofInt (2)), .ref w, .int (Int32.ofInt (2)), .ref w]) (h' := h) rfl ?_
  refine zh_iald zJ_231 (z := 0) rfl (k' := 71) rfl hg (by decide) (by decide) ?_
  generalize g (Int32.ofInt (2)).toNatClampNeg = u
  refine zh zJ_231 (i := (0, 0, 0, 1)) rfl rfl (k' := 72) (lo' := [(1, .int r), (0, .ref a)]) (st' := [.int (Int32.ofInt (1)), .int u, .int (Int32.ofInt (2)), .ref w]) (h' := h) rfl ?_
  refine zh zJ_231 (i := (8, 0, 0, 0)) rfl rfl (k' := 73) (lo' := [(1, .int r), (0, .ref a)]) (st' := [.int (u + (Int32.ofInt (1))), .int (Int32.ofInt (2)), .ref w]) (h' := h) rfl ?_
  obtain ⟨T6, F6⟩ := zwr (ms := [(21, 2, 3)]) T hw hg (i := 2) (x := (u + Int32.ofInt (1))) (by omega) (zst_ok (a := zFull) (ilo := 2) (ihi := 3) (by decide +kernel) (zFull_ok _) (by omega) (by omega)) (zcv_ok (lo := 2) (hi := 3) (by decide +kernel) (by omega) (by omega))
  have E6 := zE1_stable (ms := [(21, 2, 3)]) (by decide +kernel) ty h _ T T6 (T.len T6) F6 E
  have he6 := (zset_ne (h := h) (e := .inl (0, (2086, .inl (upd g 2 (u + Int32.ofInt (1)))))) hn).trans he
  have hg6 := zset_eq (e := .inl (0, (2086, .inl (upd g 2 (u + Int32.ofInt (1)))))) hg
  have N6 := N.keep T6 ha F6 (zNin _ _ _ (by decide +kernel))
  refine zh_iast zJ_231 (z := 0) rfl (k' := 74) rfl hg (by decide) (by decide) ?_
  rw [show (Int32.ofInt (2)).toNatClampNeg = 2 from by decide +kernel]
  generalize h.set w (.inl (0, (2086, .inl (upd g 2 (u + Int32.ofInt (1)))))) = h6 at T6 F6 E6 he6 hg6 N6 ⊢
  refine zh zJ_231 (i := (2, 0, 0, 0)) rfl rfl (k' := 75) (lo' := [(1, .int r), (0, .ref a)]) (st' := [.ref a]) (h' := h6) rfl ?_
  refine zh zJ_231 (i := (0, 0, 0, 0)) rfl rfl (k' := 76) (lo' := [(1, .int r), (0, .ref a)]) (st' := [.int (Int32.ofInt (0)), .ref a]) (h' := h6) rfl ?_
  refine zputT zJ_231 (k' := 77) rfl rfl T6 E6 ha he6 (by omega) (zK0 (by decide) (by decide)) (by decide +kernel) [(20, 7, 7)] (by decide +kernel) (by decide +kernel) rfl (fun h7 T7 E7 F7 he7 hq7 => ?_)
  have N7 := N6.keep T7 ha F7 (zNin _ _ _ (by decide +kernel))
  refine zh zJ_231 (i := (2, 0, 0, 0)) rfl rfl (k' := 78) (lo' := [(1, .int r), (0, .ref a)]) (st' := [.ref a]) (h' := h7) rfl ?_
  refine zh_get zJ_231 (b := 1) (c := 9) (z := 0) rfl (k' := 79) rfl he7 ((List.getElem?_set_ne (by decide)).trans g1) ?_
  refine zh zJ_231 (i := (0, 0, 0, 2)) rfl rfl (k' := 80) (lo' := [(1, .int r), (0, .ref a)]) (st' := [.int (Int32.ofInt (2)), .ref w]) (h' := h7) rfl ?_
  refine zh_iald zJ_231 (z := 0) rfl (k' := 81) rfl ((hq7 w hn).trans hg6) (by decide) (by decide) ?_
  refine zh_iret zJ_231 (a := 0) (b := 0) (z := 0) rfl (Or.inl rfl) ?_
  exact ⟨_, rfl, rfl, rfl, ⟨_, rfl⟩, ty, X, T7, E7, (F.tr X (F6.wide (by decide +kernel))).tr X (F7.wide (by decide +kernel)), N7⟩
set_option maxRecDepth 100000 in
theorem zS_231 {sx : zX} {ty : List Nat} {a d : Nat} {h : zH} (H : ∀ c, c < 273 → ∀ c', zCtl[c]? = some c' → zVd z_tt zE1 c') (hd : 26 ≤ d) (T : zTY z_tt ty h) (E : zE1 ty h) (ha : ty[a]? = some 20) : z_ok sx d 231 0 (lv_args 0 [.ref a]) [] h (zRq (fun v h' => (∃ c : Int32, v = some (.int c)) ∧ ∃ ty', zExt ty ty' ∧ zTY z_tt ty' h' ∧ zE1 ty' h' ∧ zFm zDm ty h h' ∧ zNi h' a)) := by
  show z_ok sx d 231 0 [(0, .ref a)] [] h _
  refine zh zJ_231 (i := (0, 0, 0, 0)) rfl rfl (k' := 1) (lo' := [(0, .ref a)]) (st' := [.int (Int32.ofInt (0))]) (h' := h) rfl ?_
  refine zh zJ_231 (i := (4, 1, 0, 0)) rfl rfl (k' := 2) (lo' := [(1, .int (Int32.ofInt (0))), (0, .ref a)]) (st' := []) (h' := h) rfl ?_
  obtain ⟨fs, he, hl⟩ := zcell0 (c := 9) (n := 23) T ha rfl rfl rfl
  obtain ⟨w1, g1, hw1⟩ := zfd2 (b := 1) (u := 21) T ha he (by omega) (by decide +kernel)
  obtain ⟨w2, g2, hw2⟩ := zfd2 (b := 3) (u := 23) T ha he (by omega) (by decide +kernel)
  obtain ⟨f1, hf1⟩ := zcell1 (n := 2086) T hw1 rfl rfl
  obtain ⟨g, hg⟩ := zcell1 (n := 1237) T hw2 rfl rfl
  refine zLp_231a (ms := [(23, 0, 1236)]) (h0 := h) ha hw1 hw2 g1 g2 (by decide +kernel) (fun x h2 q => ?_) ⟨T, zFm.rf, he, hf1, g, hg, fun k hk => absurd hk (by omega)⟩
  obtain ⟨T2, F2, he2, hs2, g9, hd2, hcp⟩ := q
  have L1 : zLT f1 := E.2 w1 21 _ f1 hw1 (Or.inl rfl) hf1
  have E2 : zE1 ty h2 := ⟨E.1, fun b9 t9 n9 f9 hb9 hz hbf => by
    rcases hz with rfl | rfl | rfl
    · exact zEt_keep T T2 F2 hb9 (Or.inl rfl) hbf (fun i h1 h2 => znt_ok (by decide +kernel) h1 h2) E.2
    · exact zEt_keep T T2 F2 hb9 (Or.inr (Or.inl rfl)) hbf (fun i h1 h2 => znt_ok (by decide +kernel) h1 h2) E.2
    · have e := E.1 b9 w2 23 (by omega) (by omega) hb9 hw2
      subst e
      rw [hd2] at hbf
      cases hbf
      exact zLT_congr (fun k k1 k2 => by have := hcp k (by omega); rw [Nat.zero_add] at this; exact this) L1⟩
  refine zh zJ_231 (i := (2, 0, 0, 0)) rfl rfl (k' := 16) (lo' := [(1, .int x), (0, .ref a)]) (st' := [.ref a]) (h' := h2) rfl ?_
  refine zh zJ_231 (i := (0, 0, 0, 1)) rfl rfl (k' := 17) (lo' := [(1, .int x), (0, .ref a)]) (st' := [.int (Int32.ofInt (1)), .ref a]) (h' := h2) rfl ?_
  refine zh_run (rest := []) (as := [.ref a, .int (Int32.ofInt (1))]) zJ_231 (i := (54, 230, 1, 9)) rfl (by decide) (zcal54 (xs := [.int (Int32.ofInt (1))]) (by omega) rfl rfl he2 rfl (Nat.le_of_ble_eq_true rfl) (M' := z_m230) rfl (Nat.le_of_ble_eq_true rfl)) (zS_230t H (by omega) T2 E2 ha) (fun o hh x y q => ?_)
  obtain ⟨v, rfl, rfl, rfl, ⟨c, rfl⟩, ty', X, T3, E3, F3, N3⟩ := q
  refine ⟨_, rfl, rfl, rfl, ?_⟩
  have F0 : zFm zDm ty h hh := (F2.wide (by decide +kernel)).tr zExt.rf F3
  have ha' := X a 20 ha
  obtain ⟨gs, hgs, hlg⟩ := zcell0 (c := 9) (n := 23) T3 ha' rfl rfl rfl
  show z_ok sx d 231 18 [(1, .int x), (0, .ref a)] [.int c] hh _
  refine zh zJ_231 (i := (4, 1, 0, 0)) rfl rfl (k' := 19) (lo' := [(1, .int c), (0, .ref a)]) (st' := []) (h' := hh) rfl ?_
  refine zh zJ_231 (i := (2, 0, 0, 0)) rfl rfl (k' := 20) (lo' := [(1, .int c), (0, .ref a)]) (st' := [.ref a]) (h' := hh) rfl ?_
  refine zh zJ_231 (i := (1, 1, 0, 0)) rfl rfl (k' := 21) (lo' := [(1, .int c), (0, .ref a)]) (st' := [.int c, .ref a]) (h' := hh) rfl ?_
  refine zh_if zJ_231 (a := 25) (b := 3) (z := 0) rfl (fun hc1 => ?_) (fun hc1 => ?_)
  · refine zh zJ_231 (i := (0, 0, 0, -1)) rfl rfl (k' := 26) (lo' := [(1, .int c), (0, .ref a)]) (st' := [.int (Int32.ofInt (-1)), .ref a]) (h' := hh) rfl ?_
    refine zputT zJ_231 (k' := 27) rfl rfl T3 E3 ha' hgs (by omega) (zK0 (by decide) (by decide)) (by decide +kernel) [(20, 14, 14)] (by decide +kernel) (by decide +kernel) rfl (fun h4 T4 E4 F4 he4 hq4 => ?_)
    have N4 := N3.keep T4 ha' F4 (zNin _ _ _ (by decide +kernel))
    have F04 := F0.tr X (F4.wide (ms' := zDm) (by decide +kernel))
    refine zh zJ_231 (i := (2, 0, 0, 0)) rfl rfl (k' := 28) (lo' := [(1, .int c), (0, .ref a)]) (st' := [.ref a]) (h' := h4) rfl ?_
    refine zh zJ_231 (i := (1, 1, 0, 0)) rfl rfl (k' := 29) (lo' := [(1, .int c), (0, .ref a)]) (st' := [.int c, .ref a]) (h' := h4) rfl ?_
    refine zh_if zJ_231 (a := 32) (b := 3) (z := 0) rfl (fun hc2 => ?_) (fun hc2 => ?_)
    · refine zh zJ_231 (i := (0, 0, 0, 0)) rfl rfl (k' := 33) (lo' := [(1, .int c), (0, .ref a)]) (st' := [.int (Int32.ofInt (0)), .ref a]) (h' := h4) rfl ?_
      refine zh zJ_231 (i := (0, 0, 0, 1)) rfl rfl (k' := 34) (lo' := [(1, .int c), (0, .ref a)]) (st' := [.int (Int32.ofInt (1)), .int (Int32.ofInt (0)), .ref a]) (h' := h4) rfl ?_
      refine zh_run (rest := []) (as := [.ref a, .int (Int32.ofInt (0)), .int (Int32.ofInt (1))]) zJ_231 (i := (54, 176, 2, 9)) rfl (by decide) (zcal54 (xs := [.int (Int32.ofInt (1)), .int (Int32.ofInt (0))]) (by omega) rfl rfl he4 rfl (Nat.le_of_ble_eq_true rfl) (M' := z_m176) rfl (Nat.le_of_ble_eq_true rfl)) (zS_176a _) (fun o hh x y q => ?_)
      obtain ⟨v, rfl, rfl, rfl, rfl, rfl⟩ := q
      refine ⟨_, rfl, rfl, rfl, ?_⟩
      show z_ok sx d 231 35 [(1, .int c), (0, .ref a)] [.int (Int32.ofInt (0))] hh _
      refine zh_if zJ_231 (a := 49) (b := 1) (z := 0) rfl (fun hc3 => ?_) (fun hc3 => ?_)
      · exact absurd hc3 (by decide)
      · obtain ⟨ks, hks, hlk⟩ := zcell0 (c := 9) (n := 23) T4 ha' rfl rfl rfl
        obtain ⟨w, k1, hw⟩ := zfd2 (b := 1) (u := 21) T4 ha' hks (by omega) (by decide +kernel)
        obtain ⟨wf, hwf⟩ := zcell1 (n := 2086) T4 hw rfl rfl
        refine zh zJ_231 (i := (2, 0, 0, 0)) rfl rfl (k' := 37) (lo' := [(1, .int c), (0, .ref a)]) (st' := [.ref a]) (h' := hh) rfl ?_
        refine zh zJ_231 (i := (2, 0, 0, 0)) rfl rfl (k' := 38) (lo' := [(1, .int c), (0, .ref a)]) (st' := [.ref a, .ref a]) (h' := hh) rfl ?_
        refine zh_get zJ_231 (b := 1) (c := 9) (z := 0) rfl (k' := 39) rfl hks k1 ?_
        refine zh zJ_231 (i := (0, 0, 0, 2)) rfl rfl (k' := 40) (lo' := [(1, .int c), (0, .ref a)]) (st' := [.int (Int32.ofInt (2)), .ref w, .ref a]) (h' := hh) rfl ?_
        refine zh_iald zJ_231 (z := 0) rfl (k' := 41) rfl hwf (by decide) (by decide) ?_
        generalize wf (Int32.ofInt (2)).toNatClampNeg = u
        refine zh zJ_231 (i := (0, 0, 0, 12)) rfl rfl (k' := 42) (lo' := [(1, .int c), (0, .ref a)]) (st' := [.int (Int32.ofInt (12)), .int u, .ref a]) (h' := hh) rfl ?_
        refine zh_icmp zJ_231 (a := 45) (b := 1) (z := 0) rfl (fun hc4 => ?_) (fun hc4 => ?_)
        · refine zh zJ_231 (i := (0, 0, 0, 0)) rfl rfl (k' := 46) (lo' := [(1, .int c), (0, .ref a)]) (st' := [.int (Int32.ofInt (0)), .ref a]) (h' := hh) rfl ?_
          refine zh zJ_231 (i := (0, 0, 0, 2)) rfl rfl (k' := 47) (lo' := [(1, .int c), (0, .ref a)]) (st' := [.int (Int32.ofInt (2)), .int (Int32.ofInt (0)), .ref a]) (h' := hh) rfl ?_
          refine zh_run (rest := []) (as := [.ref a, .int (Int32.ofInt (0)), .int (Int32.ofInt (2))]) zJ_231 (i := (54, 176, 2, 9)) rfl (by decide) (zcal54 (xs := [.int (Int32.ofInt (2)), .int (Int32.ofInt (0))]) (by omega) rfl rfl hks rfl (Nat.le_of_ble_eq_true rfl) (M' := z_m176) rfl (Nat.le_of_ble_eq_true rfl)) (zS_176a _) (fun o hh x y q => ?_)
          obtain ⟨v, rfl, rfl, rfl, rfl, rfl⟩ := q
          refine ⟨_, rfl, rfl, rfl, ?_⟩
          show z_ok sx d 231 48 [(1, .int c), (0, .ref a)] [.int (Int32.ofInt (0))] hh _
          refine zh_if zJ_231 (a := 66) (b := 0) (z := 0) rfl (fun hc5 => ?_) (fun hc5 => ?_)
          · exact zTm_231 X T4 E4 F04 N4 ha'
          · exact absurd (show z_cmp 0 (Int32.ofInt (0)) 0 = true from rfl) hc5
        · refine zh zJ_231 (i := (0, 0, 0, 1)) rfl rfl (k' := 44) (lo' := [(1, .int c), (0, .ref a)]) (st' := [.int (Int32.ofInt (1)), .ref a]) (h' := hh) rfl ?_
          refine zh zJ_231 (i := (30, 46, 0, 0)) rfl rfl (k' := 46) (lo' := [(1, .int c), (0, .ref a)]) (st' := [.int (Int32.ofInt (1)), .ref a]) (h' := hh) rfl ?_
          refine zh zJ_231 (i := (0, 0, 0, 2)) rfl rfl (k' := 47) (lo' := [(1, .int c), (0, .ref a)]) (st' := [.int (Int32.ofInt (2)), .int (Int32.ofInt (1)), .ref a]) (h' := hh) rfl ?_
          refine zh_run (rest := []) (as := [.ref a, .int (Int32.ofInt (1)), .int (Int32.ofInt (2))]) zJ_231 (i := (54, 176, 2, 9)) rfl (by decide) (zcal54 (xs := [.int (Int32.ofInt (2)), .int (Int32.ofInt (1))]) (by omega) rfl rfl hks rfl (Nat.le_of_ble_eq_true rfl) (M' := z_m176) rfl (Nat.le_of_ble_eq_true rfl)) (zS_176b _ T4 E4 ha') (fun o hh x y q => ?_)
          obtain ⟨v, rfl, rfl, rfl, rfl, T8, E8, F8⟩ := q
          refine ⟨_, rfl, rfl, rfl, ?_⟩
          show z_ok sx d 231 48 [(1, .int c), (0, .ref a)] [.int (Int32.ofInt (1))] hh _
          have N8 := N4.keep T8 ha' F8 (zNin _ _ _ (by decide +kernel))
          refine zh_if zJ_231 (a := 66) (b := 0) (z := 0) rfl (fun hc6 => ?_) (fun hc6 => ?_)
          · exact absurd hc6 (by decide)
          · exact zTl_231 X T8 E8 (F04.tr X (F8.wide (by decide +kernel))) N8 ha'
    · exact absurd hc1 hc2
  · obtain ⟨x12, g12, -⟩ := zfd0 (b := 12) (lo := 0) (hi := 400) T3 ha' hgs (by omega) (by decide +kernel)
    refine zh zJ_231 (i := (2, 0, 0, 0)) rfl rfl (k' := 23) (lo' := [(1, .int c), (0, .ref a)]) (st' := [.ref a, .ref a]) (h' := hh) rfl ?_
    refine zh_get zJ_231 (b := 12) (c := 9) (z := 0) rfl (k' := 24) rfl hgs g12 ?_
    refine zh zJ_231 (i := (30, 26, 0, 0)) rfl rfl (k' := 26) (lo' := [(1, .int c), (0, .ref a)]) (st' := [.int x12, .ref a]) (h' := hh) rfl ?_
    refine zputT zJ_231 (k' := 27) rfl rfl T3 E3 ha' hgs (by omega) (zFull_ok x12) (by decide +kernel) [(20, 14, 14)] (by decide +kernel) (by decide +kernel) rfl (fun h4 T4 E4 F4 he4 hq4 => ?_)
    have N4 := N3.keep T4 ha' F4 (zNin _ _ _ (by decide +kernel))
    refine zh zJ_231 (i := (2, 0, 0, 0)) rfl rfl (k' := 28) (lo' := [(1, .int c), (0, .ref a)]) (st' := [.ref a]) (h' := h4) rfl ?_
    refine zh zJ_231 (i := (1, 1, 0, 0)) rfl rfl (k' := 29) (lo' := [(1, .int c), (0, .ref a)]) (st' := [.int c, .ref a]) (h' := h4) rfl ?_
    refine zh_if zJ_231 (a := 32) (b := 3) (z := 0) rfl (fun hc7 => ?_) (fun hc7 => ?_)
    · exact absurd hc7 hc1
    · refine zh zJ_231 (i := (0, 0, 0, 1)) rfl rfl (k' := 31) (lo' := [(1, .int c), (0, .ref a)]) (st' := [.int (Int32.ofInt (1)), .ref a]) (h' := h4) rfl ?_
      refine zh zJ_231 (i := (30, 33, 0, 0)) rfl rfl (k' := 33) (lo' := [(1, .int c), (0, .ref a)]) (st' := [.int (Int32.ofInt (1)), .ref a]) (h' := h4) rfl ?_
      refine zh zJ_231 (i := (0, 0, 0, 1)) rfl rfl (k' := 34) (lo' := [(1, .int c), (0, .ref a)]) (st' := [.int (Int32.ofInt (1)), .int (Int32.ofInt (1)), .ref a]) (h' := h4) rfl ?_
      refine zh_run (rest := []) (as := [.ref a, .int (Int32.ofInt (1)), .int (Int32.ofInt (1))]) zJ_231 (i := (54, 176, 2, 9)) rfl (by decide) (zcal54 (xs := [.int (Int32.ofInt (1)), .int (Int32.ofInt (1))]) (by omega) rfl rfl he4 rfl (Nat.le_of_ble_eq_true rfl) (M' := z_m176) rfl (Nat.le_of_ble_eq_true rfl)) (zS_176b _ T4 E4 ha') (fun o hh x y q => ?_)
      obtain ⟨v, rfl, rfl, rfl, rfl, T5, E5, F5⟩ := q
      refine ⟨_, rfl, rfl, rfl, ?_⟩
      show z_ok sx d 231 35 [(1, .int c), (0, .ref a)] [.int (Int32.ofInt (1))] hh _
      have N5 := N4.keep T5 ha' F5 (zNin _ _ _ (by decide +kernel))
      refine zh_if zJ_231 (a := 49) (b := 1) (z := 0) rfl (fun hc8 => ?_) (fun hc8 => ?_)
      · exact zTl_231 X T5 E5 ((F0.tr X (F4.wide (by decide +kernel))).tr X (F5.wide (by decide +kernel))) N5 ha'
      · exact absurd (show z_cmp 1 (Int32.ofInt (1)) 0 = true from rfl) hc8
end
section
/-! no run makes more cells than it costs; printed with wip/gen/gen_len.py -/
noncomputable def zLno (o : zNop) : Prop := ∀ (sx : zX) (d a b : Nat) (c : Int) (k : Nat) (l : zL) (st : List Value) (h : zH) (k' : Nat) (l' : zL) (st' : List Value) (h' : zH) (x y : Nat), o sx d a b c k l st h = some (k', l', st', h', x, y) → h'.length ≤ h.length + x
theorem zln0 {k k' : Nat} {l l' : zL} {st st' : List Value} {h h' : zH} {x y : Nat} (e : zn k l st h = some (k', l', st', h', x, y)) : h'.length ≤ h.length + x := by
  obtain ⟨-, -, -, rfl, -⟩ := zn_inj e
  omega
theorem zln1 {k k' i : Nat} {l l' : zL} {st st' : List Value} {h h' : zH} {v : zE} {x y : Nat} (e : zn k l st (h.set i v) = some (k', l', st', h', x, y)) : h'.length ≤ h.length + x := by
  obtain ⟨-, -, -, rfl, -⟩ := zn_inj e
  rw [List.length_set]
  omega
theorem zln2 {k k' y0 : Nat} {l l' : zL} {st st' : List Value} {h h' : zH} {v : zE} {x y : Nat} (e : some (k, l, st, h ++ [v], 1, y0) = some (k', l', st', h', x, y)) : h'.length ≤ h.length + x := by
  simp only [Option.some.injEq, Prod.mk.injEq] at e
  obtain ⟨-, -, -, rfl, rfl, -⟩ := e
  rw [List.length_append, List.length_singleton]
  omega
theorem zl_no : zLno z_no := fun _ _ _ _ _ _ _ _ _ _ _ _ _ _ _ e => by cases e
theorem zl_aald : zLno zo_aald := by
  intro sx d a b c k l st h k' l' st' h' x y e
  unfold zo_aald at e
  repeat' split at e
  all_goals first
    | exact zln0 e
    | exact zln1 e
    | exact zln2 e
    | cases e
theorem zl_aast : zLno zo_aast := by
  intro sx d a b c k l st h k' l' st' h' x y e
  unfold zo_aast at e
  repeat' split at e
  all_goals first
    | exact zln0 e
    | exact zln1 e
    | exact zln2 e
    | cases e
theorem zl_acopy : zLno zo_acopy := by
  intro sx d a b c k l st h k' l' st' h' x y e
  unfold zo_acopy at e
  repeat' split at e
  all_goals first
    | exact zln0 e
    | exact zln1 e
    | exact zln2 e
    | cases e
theorem zl_alen : zLno zo_alen := by
  intro sx d a b c k l st h k' l' st' h' x y e
  unfold zo_alen at e
  repeat' split at e
  all_goals first
    | exact zln0 e
    | exact zln1 e
    | exact zln2 e
    | cases e
theorem zl_aload : zLno zo_aload := by
  intro sx d a b c k l st h k' l' st' h' x y e
  unfold zo_aload at e
  repeat' split at e
  all_goals first
    | exact zln0 e
    | exact zln1 e
    | exact zln2 e
    | cases e
theorem zl_anew : zLno zo_anew := by
  intro sx d a b c k l st h k' l' st' h' x y e
  unfold zo_anew at e
  repeat' split at e
  all_goals first
    | exact zln0 e
    | exact zln1 e
    | exact zln2 e
    | cases e
theorem zl_astore : zLno zo_astore := by
  intro sx d a b c k l st h k' l' st' h' x y e
  unfold zo_astore at e
  repeat' split at e
  all_goals first
    | exact zln0 e
    | exact zln1 e
    | exact zln2 e
    | cases e
theorem zl_bald : zLno zo_bald := by
  intro sx d a b c k l st h k' l' st' h' x y e
  unfold zo_bald at e
  repeat' split at e
  all_goals first
    | exact zln0 e
    | exact zln1 e
    | exact zln2 e
    | cases e
theorem zl_bast : zLno zo_bast := by
  intro sx d a b c k l st h k' l' st' h' x y e
  unfold zo_bast at e
  repeat' split at e
  all_goals first
    | exact zln0 e
    | exact zln1 e
    | exact zln2 e
    | cases e
theorem zl_cast : zLno zo_cast := by
  intro sx d a b c k l st h k' l' st' h' x y e
  unfold zo_cast at e
  repeat' split at e
  all_goals first
    | exact zln0 e
    | exact zln1 e
    | exact zln2 e
    | cases e
theorem zl_clone : zLno zo_clone := by
  intro sx d a b c k l st h k' l' st' h' x y e
  unfold zo_clone at e
  repeat' split at e
  all_goals first
    | exact zln0 e
    | exact zln1 e
    | exact zln2 e
    | cases e
theorem zl_const : zLno zo_const := by
  intro sx d a b c k l st h k' l' st' h' x y e
  unfold zo_const at e
  repeat' split at e
  all_goals first
    | exact zln0 e
    | exact zln1 e
    | exact zln2 e
    | cases e
theorem zl_dup : zLno zo_dup := by
  intro sx d a b c k l st h k' l' st' h' x y e
  unfold zo_dup at e
  repeat' split at e
  all_goals first
    | exact zln0 e
    | exact zln1 e
    | exact zln2 e
    | cases e
theorem zl_dup2 : zLno zo_dup2 := by
  intro sx d a b c k l st h k' l' st' h' x y e
  unfold zo_dup2 at e
  repeat' split at e
  all_goals first
    | exact zln0 e
    | exact zln1 e
    | exact zln2 e
    | cases e
theorem zl_get : zLno zo_get := by
  intro sx d a b c k l st h k' l' st' h' x y e
  unfold zo_get at e
  repeat' split at e
  all_goals first
    | exact zln0 e
    | exact zln1 e
    | exact zln2 e
    | cases e
theorem zl_goto : zLno zo_goto := by
  intro sx d a b c k l st h k' l' st' h' x y e
  unfold zo_goto at e
  repeat' split at e
  all_goals first
    | exact zln0 e
    | exact zln1 e
    | exact zln2 e
    | cases e
theorem zl_i2b : zLno zo_i2b := by
  intro sx d a b c k l st h k' l' st' h' x y e
  unfold zo_i2b at e
  repeat' split at e
  all_goals first
    | exact zln0 e
    | exact zln1 e
    | exact zln2 e
    | cases e
theorem zl_i2l : zLno zo_i2l := by
  intro sx d a b c k l st h k' l' st' h' x y e
  unfold zo_i2l at e
  repeat' split at e
  all_goals first
    | exact zln0 e
    | exact zln1 e
    | exact zln2 e
    | cases e
theorem zl_iadd : zLno zo_iadd := by
  intro sx d a b c k l st h k' l' st' h' x y e
  unfold zo_iadd at e
  repeat' split at e
  all_goals first
    | exact zln0 e
    | exact zln1 e
    | exact zln2 e
    | cases e
theorem zl_iald : zLno zo_iald := by
  intro sx d a b c k l st h k' l' st' h' x y e
  unfold zo_iald at e
  repeat' split at e
  all_goals first
    | exact zln0 e
    | exact zln1 e
    | exact zln2 e
    | cases e
theorem zl_lald : zLno zo_lald := by
  intro sx d a b c k l st h k' l' st' h' x y e
  unfold zo_lald at e
  repeat' split at e
  all_goals first
    | exact zln0 e
    | exact zln1 e
    | exact zln2 e
    | cases e
theorem zl_iand : zLno zo_iand := by
  intro sx d a b c k l st h k' l' st' h' x y e
  unfold zo_iand at e
  repeat' split at e
  all_goals first
    | exact zln0 e
    | exact zln1 e
    | exact zln2 e
    | cases e
theorem zl_iast : zLno zo_iast := by
  intro sx d a b c k l st h k' l' st' h' x y e
  unfold zo_iast at e
  repeat' split at e
  all_goals first
    | exact zln0 e
    | exact zln1 e
    | exact zln2 e
    | cases e
theorem zl_icmp : zLno zo_icmp := by
  intro sx d a b c k l st h k' l' st' h' x y e
  unfold zo_icmp at e
  repeat' split at e
  all_goals first
    | exact zln0 e
    | exact zln1 e
    | exact zln2 e
    | cases e
theorem zl_idiv : zLno zo_idiv := by
  intro sx d a b c k l st h k' l' st' h' x y e
  unfold zo_idiv at e
  repeat' split at e
  all_goals first
    | exact zln0 e
    | exact zln1 e
    | exact zln2 e
    | cases e
theorem zl_if : zLno zo_if := by
  intro sx d a b c k l st h k' l' st' h' x y e
  unfold zo_if at e
  repeat' split at e
  all_goals first
    | exact zln0 e
    | exact zln1 e
    | exact zln2 e
    | cases e
theorem zl_ifnn : zLno zo_ifnn := by
  intro sx d a b c k l st h k' l' st' h' x y e
  unfold zo_ifnn at e
  repeat' split at e
  all_goals first
    | exact zln0 e
    | exact zln1 e
    | exact zln2 e
    | cases e
theorem zl_iinc : zLno zo_iinc := by
  intro sx d a b c k l st h k' l' st' h' x y e
  unfold zo_iinc at e
  repeat' split at e
  all_goals first
    | exact zln0 e
    | exact zln1 e
    | exact zln2 e
    | cases e
theorem zl_iload : zLno zo_iload := by
  intro sx d a b c k l st h k' l' st' h' x y e
  unfold zo_iload at e
  repeat' split at e
  all_goals first
    | exact zln0 e
    | exact zln1 e
    | exact zln2 e
    | cases e
theorem zl_imul : zLno zo_imul := by
  intro sx d a b c k l st h k' l' st' h' x y e
  unfold zo_imul at e
  repeat' split at e
  all_goals first
    | exact zln0 e
    | exact zln1 e
    | exact zln2 e
    | cases e
theorem zl_ior : zLno zo_ior := by
  intro sx d a b c k l st h k' l' st' h' x y e
  unfold zo_ior at e
  repeat' split at e
  all_goals first
    | exact zln0 e
    | exact zln1 e
    | exact zln2 e
    | cases e
theorem zl_irem : zLno zo_irem := by
  intro sx d a b c k l st h k' l' st' h' x y e
  unfold zo_irem at e
  repeat' split at e
  all_goals first
    | exact zln0 e
    | exact zln1 e
    | exact zln2 e
    | cases e
theorem zl_ishl : zLno zo_ishl := by
  intro sx d a b c k l st h k' l' st' h' x y e
  unfold zo_ishl at e
  repeat' split at e
  all_goals first
    | exact zln0 e
    | exact zln1 e
    | exact zln2 e
    | cases e
theorem zl_ishr : zLno zo_ishr := by
  intro sx d a b c k l st h k' l' st' h' x y e
  unfold zo_ishr at e
  repeat' split at e
  all_goals first
    | exact zln0 e
    | exact zln1 e
    | exact zln2 e
    | cases e
theorem zl_istore : zLno zo_istore := by
  intro sx d a b c k l st h k' l' st' h' x y e
  unfold zo_istore at e
  repeat' split at e
  all_goals first
    | exact zln0 e
    | exact zln1 e
    | exact zln2 e
    | cases e
theorem zl_isub : zLno zo_isub := by
  intro sx d a b c k l st h k' l' st' h' x y e
  unfold zo_isub at e
  repeat' split at e
  all_goals first
    | exact zln0 e
    | exact zln1 e
    | exact zln2 e
    | cases e
theorem zl_iushr : zLno zo_iushr := by
  intro sx d a b c k l st h k' l' st' h' x y e
  unfold zo_iushr at e
  repeat' split at e
  all_goals first
    | exact zln0 e
    | exact zln1 e
    | exact zln2 e
    | cases e
theorem zl_ixor : zLno zo_ixor := by
  intro sx d a b c k l st h k' l' st' h' x y e
  unfold zo_ixor at e
  repeat' split at e
  all_goals first
    | exact zln0 e
    | exact zln1 e
    | exact zln2 e
    | cases e
theorem zl_l2i : zLno zo_l2i := by
  intro sx d a b c k l st h k' l' st' h' x y e
  unfold zo_l2i at e
  repeat' split at e
  all_goals first
    | exact zln0 e
    | exact zln1 e
    | exact zln2 e
    | cases e
theorem zl_ladd : zLno zo_ladd := by
  intro sx d a b c k l st h k' l' st' h' x y e
  unfold zo_ladd at e
  repeat' split at e
  all_goals first
    | exact zln0 e
    | exact zln1 e
    | exact zln2 e
    | cases e
theorem zl_last : zLno zo_last := by
  intro sx d a b c k l st h k' l' st' h' x y e
  unfold zo_last at e
  repeat' split at e
  all_goals first
    | exact zln0 e
    | exact zln1 e
    | exact zln2 e
    | cases e
theorem zl_lcmp : zLno zo_lcmp := by
  intro sx d a b c k l st h k' l' st' h' x y e
  unfold zo_lcmp at e
  repeat' split at e
  all_goals first
    | exact zln0 e
    | exact zln1 e
    | exact zln2 e
    | cases e
theorem zl_lconst : zLno zo_lconst := by
  intro sx d a b c k l st h k' l' st' h' x y e
  unfold zo_lconst at e
  repeat' split at e
  all_goals first
    | exact zln0 e
    | exact zln1 e
    | exact zln2 e
    | cases e
theorem zl_ldcs : zLno zo_ldcs := by
  intro sx d a b c k l st h k' l' st' h' x y e
  unfold zo_ldcs at e
  repeat' split at e
  all_goals first
    | exact zln0 e
    | exact zln1 e
    | exact zln2 e
    | cases e
theorem zl_ldiv : zLno zo_ldiv := by
  intro sx d a b c k l st h k' l' st' h' x y e
  unfold zo_ldiv at e
  repeat' split at e
  all_goals first
    | exact zln0 e
    | exact zln1 e
    | exact zln2 e
    | cases e
theorem zl_lload : zLno zo_lload := by
  intro sx d a b c k l st h k' l' st' h' x y e
  unfold zo_lload at e
  repeat' split at e
  all_goals first
    | exact zln0 e
    | exact zln1 e
    | exact zln2 e
    | cases e
theorem zl_lmul : zLno zo_lmul := by
  intro sx d a b c k l st h k' l' st' h' x y e
  unfold zo_lmul at e
  repeat' split at e
  all_goals first
    | exact zln0 e
    | exact zln1 e
    | exact zln2 e
    | cases e
theorem zl_lstore : zLno zo_lstore := by
  intro sx d a b c k l st h k' l' st' h' x y e
  unfold zo_lstore at e
  repeat' split at e
  all_goals first
    | exact zln0 e
    | exact zln1 e
    | exact zln2 e
    | cases e
theorem zl_lsw2 : zLno zo_lsw2 := by
  intro sx d a b c k l st h k' l' st' h' x y e
  unfold zo_lsw2 at e
  repeat' split at e
  all_goals first
    | exact zln0 e
    | exact zln1 e
    | exact zln2 e
    | cases e
theorem zl_max : zLno zo_max := by
  intro sx d a b c k l st h k' l' st' h' x y e
  unfold zo_max at e
  repeat' split at e
  all_goals first
    | exact zln0 e
    | exact zln1 e
    | exact zln2 e
    | cases e
theorem zl_min : zLno zo_min := by
  intro sx d a b c k l st h k' l' st' h' x y e
  unfold zo_min at e
  repeat' split at e
  all_goals first
    | exact zln0 e
    | exact zln1 e
    | exact zln2 e
    | cases e
theorem zl_new : zLno zo_new := by
  intro sx d a b c k l st h k' l' st' h' x y e
  unfold zo_new at e
  repeat' split at e
  all_goals first
    | exact zln0 e
    | exact zln1 e
    | exact zln2 e
    | cases e
theorem zl_newa : zLno zo_newa := by
  intro sx d a b c k l st h k' l' st' h' x y e
  unfold zo_newa at e
  repeat' split at e
  all_goals first
    | exact zln0 e
    | exact zln1 e
    | exact zln2 e
    | cases e
theorem zl_null : zLno zo_null := by
  intro sx d a b c k l st h k' l' st' h' x y e
  unfold zo_null at e
  repeat' split at e
  all_goals first
    | exact zln0 e
    | exact zln1 e
    | exact zln2 e
    | cases e
theorem zl_oinit : zLno zo_oinit := by
  intro sx d a b c k l st h k' l' st' h' x y e
  unfold zo_oinit at e
  repeat' split at e
  all_goals first
    | exact zln0 e
    | exact zln1 e
    | exact zln2 e
    | cases e
theorem zl_pop : zLno zo_pop := by
  intro sx d a b c k l st h k' l' st' h' x y e
  unfold zo_pop at e
  repeat' split at e
  all_goals first
    | exact zln0 e
    | exact zln1 e
    | exact zln2 e
    | cases e
theorem zl_put : zLno zo_put := by
  intro sx d a b c k l st h k' l' st' h' x y e
  unfold zo_put at e
  repeat' split at e
  all_goals first
    | exact zln0 e
    | exact zln1 e
    | exact zln2 e
    | cases e
theorem zl_sald : zLno zo_sald := by
  intro sx d a b c k l st h k' l' st' h' x y e
  unfold zo_sald at e
  repeat' split at e
  all_goals first
    | exact zln0 e
    | exact zln1 e
    | exact zln2 e
    | cases e
theorem zl_scharAt : zLno zo_scharAt := by
  intro sx d a b c k l st h k' l' st' h' x y e
  unfold zo_scharAt at e
  repeat' split at e
  all_goals first
    | exact zln0 e
    | exact zln1 e
    | exact zln2 e
    | cases e
theorem zl_slen : zLno zo_slen := by
  intro sx d a b c k l st h k' l' st' h' x y e
  unfold zo_slen at e
  repeat' split at e
  all_goals first
    | exact zln0 e
    | exact zln1 e
    | exact zln2 e
    | cases e
theorem zl_slength : zLno zo_slength := by
  intro sx d a b c k l st h k' l' st' h' x y e
  unfold zo_slength at e
  repeat' split at e
  all_goals first
    | exact zln0 e
    | exact zln1 e
    | exact zln2 e
    | cases e
theorem zl_tsw : zLno zo_tsw := by
  intro sx d a b c k l st h k' l' st' h' x y e
  unfold zo_tsw at e
  repeat' split at e
  all_goals first
    | exact zln0 e
    | exact zln1 e
    | exact zln2 e
    | cases e
theorem zl_all : ∀ o, zLno (z_ops.getD o z_no)
  | 0 => zl_const
  | 1 => zl_iload
  | 2 => zl_aload
  | 3 => zl_lload
  | 4 => zl_istore
  | 5 => zl_astore
  | 6 => zl_lstore
  | 7 => zl_iinc
  | 8 => zl_iadd
  | 9 => zl_isub
  | 10 => zl_imul
  | 11 => zl_idiv
  | 12 => zl_irem
  | 13 => zl_ishl
  | 14 => zl_ishr
  | 15 => zl_iushr
  | 16 => zl_iand
  | 17 => zl_ior
  | 18 => zl_ixor
  | 19 => zl_i2l
  | 20 => zl_l2i
  | 21 => zl_i2b
  | 22 => zl_ladd
  | 23 => zl_lmul
  | 24 => zl_ldiv
  | 25 => zl_lconst
  | 26 => zl_lcmp
  | 27 => zl_dup
  | 28 => zl_dup2
  | 29 => zl_pop
  | 30 => zl_goto
  | 31 => zl_if
  | 32 => zl_icmp
  | 33 => zl_ifnn
  | 34 => zl_lald
  | 35 => zl_tsw
  | 36 => zl_lsw2
  | 37 => zl_get
  | 38 => zl_put
  | 39 => zl_iald
  | 40 => zl_iast
  | 41 => zl_bald
  | 42 => zl_bast
  | 43 => zl_last
  | 44 => zl_aald
  | 45 => zl_aast
  | 46 => zl_alen
  | 47 => zl_newa
  | 48 => zl_anew
  | 49 => zl_new
  | 50 => zl_no
  | 51 => zl_no
  | 52 => zl_no
  | 53 => zl_no
  | 54 => zl_no
  | 55 => zl_no
  | 56 => zl_no
  | 57 => zl_oinit
  | 58 => zl_ldcs
  | 59 => zl_slength
  | 60 => zl_scharAt
  | 61 => zl_acopy
  | 62 => zl_no
  | 63 => zl_null
  | 64 => zl_no
  | 65 => zl_sald
  | 66 => zl_slen
  | 67 => zl_min
  | 68 => zl_max
  | 69 => zl_no
  | 70 => zl_clone
  | 71 => zl_cast
  | n + 72 => zl_no
theorem z_run_len (sx : zX) : ∀ (n d j k : Nat) (lo : zL) (st : List Value) (h : zH) (o : zO) (h' : zH) (x y : Nat), z_run sx n d j k lo st h = some (o, h', x, y) → h'.length ≤ h.length + x := by
  intro n
  induction n with
  | zero => intro d j k lo st h o h' x y hr; rw [z_run] at hr; cases hr
  | succ n ih =>
    intro d j k lo st h o h' x y hr
    rw [z_run] at hr
    cases hM : z_ms[j]? with
    | none => rw [hM] at hr; cases hr
    | some M =>
    cases hC : z_cs[j]? with
    | none => rw [hM, hC] at hr; cases hr
    | some cs =>
    cases hH : z_hs[j]? with
    | none => rw [hM, hC, hH] at hr; cases hr
    | some hs =>
    rw [hM, hC, hH] at hr
    dsimp only at hr
    cases hk : cs[k]? with
    | none => rw [hk] at hr; cases hr
    | some i =>
    rw [hk] at hr
    dsimp only at hr
    cases hf : z_fin M i d st with
    | some w =>
      rw [hf] at hr
      obtain ⟨w1, w2, w3⟩ := w
      simp only [Option.some.injEq, Prod.mk.injEq] at hr
      obtain ⟨-, rfl, -⟩ := hr
      omega
    | none =>
    rw [hf] at hr
    dsimp only at hr
    cases hc : z_cal i d st h with
    | some w =>
      obtain ⟨j', as, rest⟩ := w
      rw [hc] at hr
      dsimp only at hr
      cases hin : z_run sx n (d - 1) j' 0 (lv_args 0 as) [] h with
      | none => rw [hin] at hr; cases hr
      | some w =>
      obtain ⟨oi, h1, x1, y1⟩ := w
      rw [hin] at hr
      have k1 := ih _ _ _ _ _ _ _ _ _ _ hin
      cases oi with
      | inl v =>
        dsimp only at hr
        obtain ⟨a, b, e1, e2, e3⟩ := z_mapadd hr
        have k2 := ih _ _ _ _ _ _ _ _ _ _ e1
        omega
      | inr E =>
        dsimp only at hr
        by_cases hi : i.1 = 54
        case neg => rw [if_neg hi] at hr; cases hr
        rw [if_pos hi] at hr
        cases hfd : hs.find? (fun q => q.2.2.2.2.1 == E) with
        | some q =>
          rw [hfd] at hr
          dsimp only at hr
          obtain ⟨a, b, e1, e2, e3⟩ := z_mapadd hr
          have k2 := ih _ _ _ _ _ _ _ _ _ _ e1
          omega
        | none =>
          rw [hfd] at hr
          dsimp only at hr
          split at hr
          · simp only [Option.some.injEq, Prod.mk.injEq] at hr
            obtain ⟨-, rfl, rfl, -⟩ := hr
            exact k1
          · cases hr
    | none =>
    rw [hc] at hr
    dsimp only at hr
    cases ho : (z_ops.getD i.1 z_no) sx d i.2.1 i.2.2.1 i.2.2.2 k lo st h with
    | none => rw [ho] at hr; cases hr
    | some w =>
    obtain ⟨k', lo', st', h1, x1, y1⟩ := w
    rw [ho] at hr
    dsimp only at hr
    have k1 := zl_all i.1 _ _ _ _ _ _ _ _ _ _ _ _ _ _ _ ho
    obtain ⟨a, b, e1, e2, e3⟩ := z_mapadd hr
    have k2 := ih _ _ _ _ _ _ _ _ _ _ e1
    omega
theorem z_ok.len {sx : zX} {d j k : Nat} {lo : zL} {st : List Value} {h : zH} {Ψ : zO → zH → Nat → Nat → Prop} (H : z_ok sx d j k lo st h Ψ) : z_ok sx d j k lo st h (fun o h' x y => Ψ o h' x y ∧ h'.length ≤ h.length + x) := by
  obtain ⟨n, o, h', x, y, e, q⟩ := H
  exact ⟨n, o, h', x, y, e, q, z_run_len sx n d j k lo st h o h' x y e⟩
/-! pieces by the checker, to any end -/
section ZSG3
variable {tt : Nat → zTy} {Ex : List Nat → zH → Prop} {cts : List zCt} {cand : List (List Nat)} {own : Nat} {ct : zCt} {ty0 : List Nat} {h0 : zH} {ρ0 : List Value} {sx : zX} {d0 : Nat} {Φ : zO → zH → Nat → Nat → Prop}
theorem zxs_ok3 {stop hit : zSt → Bool} (hst : zStable tt Ex (zcM ct)) (hd : zcD ct ≤ d0) (hcts : ∀ c, c < own → ∀ c', cts[c]? = some c' → zVd tt Ex c') (hΦ : ∀ o h x y, zPo tt Ex ct ty0 h0 o h x y → Φ o h x y) (hcut : ∀ (s : zSt) (cf : List zCf) (h : zH) (X Y : Nat), zRl tt Ex ct ty0 h0 ρ0 s cf h X Y → hit s = true → zGo sx d0 Φ cf h X Y) : ∀ (n : Nat) (s : zSt) (cf : List zCf) (h : zH) (X Y : Nat), zRl tt Ex ct ty0 h0 ρ0 s cf h X Y → zxs tt cts cand own ct stop hit n s = true → zGo sx d0 Φ cf h X Y
  | 0, _, _, _, _, _, _, hq => by cases hq
  | n + 1, s, cf, h, X, Y, R, hq => by
    rw [zxs] at hq
    split at hq
    case h_1 => cases hq
    next l hl =>
    refine zstep_ok hst hd hcts R hl ⟨hΦ, fun s' hs' cf' h' X' Y' R' => ?_⟩
    have := List.all_eq_true.mp hq s' hs'
    split at this
    · exact hcut s' cf' h' X' Y' R' this
    · exact zxs_ok3 hst hd hcts hΦ hcut n s' cf' h' X' Y' R' this
end ZSG3
theorem zPo_no {ct : zCt} (h1 : zcR ct = [(0, 1, 0)]) (h2 : zcE ct = []) {ty0 : List Nat} {h0 : zH} (Φ : zO → zH → Nat → Nat → Prop) : ∀ o h x y, zPo z_tt zE1 ct ty0 h0 o h x y → Φ o h x y := by
  rintro o h x y ⟨ty', -, -, -, -, q⟩
  cases o with
  | inl v =>
    rw [h1] at q
    cases v with
    | none => exact q.1.elim
    | some v =>
      obtain ⟨u, -, u1, u2⟩ := q.1
      omega
  | inr E =>
    rw [h2] at q
    exact absurd q.1 List.not_mem_nil
/-! the lengths of the two tapes -/
noncomputable def zTp (ty : List Nat) (h : zH) (ax : Nat) (n : Int) : Prop := ∃ (e1 e2 : zE) (t : Nat) (x : Int32), h[ax]? = some e1 ∧ z_rd e1 0 = some (.ref t) ∧ ty[t]? = some 2 ∧ h[t]? = some e2 ∧ z_rd e2 1 = some (.int x) ∧ x.toInt = n
noncomputable def zMp (h : zH) (am : Nat) (n : Int) : Prop := ∃ (e : zE) (x : Int32), h[am]? = some e ∧ z_rd e 9 = some (.int x) ∧ x.toInt = n
theorem zat_ex {ty ty' : List Nat} {h h' : zH} {a t : Nat} (T' : zTY z_tt ty' h') (X : zExt ty ty') (ha : ty[a]? = some t) : ∃ e, h'[a]? = some e := by
  have hl : a < h'.length := by rw [← T'.1]; exact (List.getElem?_eq_some_iff.mp (X a t ha)).1
  exact ⟨_, List.getElem?_eq_getElem hl⟩
theorem zTp.keep {ms : List zMod} {ty ty' : List Nat} {h h' : zH} {ax : Nat} {n : Int} (H : zTp ty h ax n) (ha : ty[ax]? = some 1) (T' : zTY z_tt ty' h') (X : zExt ty ty') (F : zFm ms ty h h') (h1 : ¬ zIn ms 1 0) (h2 : ¬ zIn ms 2 1) : zTp ty' h' ax n := by
  obtain ⟨e1, e2, t, x, a1, a2, a3, a4, a5, a6⟩ := H
  obtain ⟨f1, b1⟩ := zat_ex (h := h) T' X ha
  obtain ⟨f2, b2⟩ := zat_ex (h := h) T' X a3
  exact ⟨f1, f2, t, x, b1, (F.2 ax 1 e1 f1 ha a1 b1 0 h1).trans a2, X t 2 a3, b2, (F.2 t 2 e2 f2 a3 a4 b2 1 h2).trans a5, a6⟩
theorem zMp.keep {ms : List zMod} {ty ty' : List Nat} {h h' : zH} {am : Nat} {n : Int} (H : zMp h am n) (ha : ty[am]? = some 20) (T' : zTY z_tt ty' h') (X : zExt ty ty') (F : zFm ms ty h h') (h1 : ¬ zIn ms 20 9) : zMp h' am n := by
  obtain ⟨e1, x, a1, a2, a3⟩ := H
  obtain ⟨f1, b1⟩ := zat_ex (h := h) T' X ha
  exact ⟨f1, x, b1, (F.2 am 20 e1 f1 ha a1 b1 9 h1).trans a2, a3⟩
theorem zNi.mp {h : zH} {a : Nat} (H : zNi h a) : zMp h a 0 := by
  obtain ⟨fs, he, h9⟩ := H
  exact ⟨_, 0, he, h9, rfl⟩
/-- the tape, read -/
theorem zTp.at {ty : List Nat} {h : zH} {ax : Nat} {n : Int} (T : zTY z_tt ty h) (ha : ty[ax]? = some 1) (H : zTp ty h ax n) : ∃ (fs ts : List Value) (t : Nat) (x : Int32), h[ax]? = some (.inr (8, fs)) ∧ fs.length = 8 ∧ fs[0]? = some (.ref t) ∧ ty[t]? = some 2 ∧ h[t]? = some (.inr (6, ts)) ∧ ts.length = 4 ∧ ts[1]? = some (.int x) ∧ x.toInt = n := by
  obtain ⟨e1, e2, t, x, a1, a2, a3, a4, a5, a6⟩ := H
  obtain ⟨fs, b1, b2⟩ := zcell0 (c := 8) (n := 8) T ha rfl rfl rfl
  obtain ⟨ts, c1, c2⟩ := zcell0 (c := 6) (n := 4) T a3 rfl rfl rfl
  rw [b1] at a1
  cases a1
  rw [c1] at a4
  cases a4
  exact ⟨fs, ts, t, x, b1, b2, a2, a3, c1, c2, a5, a6⟩
end
section
/-! feed and end of both sides; printed with wip/gen/gen_feed.py -/
/-- pieces that tell which locals have stayed -/
abbrev zTk : Type := zTg × List Nat
noncomputable def zky (loc sloc : zLs) (i : Nat) : Bool := match zlk sloc i, zlk loc i with
  | some a, some b => decide (a = b)
  | _, _ => false
noncomputable def zht4 (tt : Nat → zTy) (ct : zCt) (c0 : zCut) (gs : List zTk) (s : zSt) : Bool := match s.2.2.1 with
  | [f] => gs.any (fun g => zht1 tt ct c0 s f g.1 && g.2.all (zky f.2.2.1 (zc_loc c0)))
  | _ => false
noncomputable def zstop4 (gs : List zTk) (s : zSt) : Bool := match s.2.2.1 with
  | [f] => gs.any (fun g => g.1.1 == f.2.1)
  | _ => false
theorem zky_ok {ρ ρ1 : List Value} {loc sloc : zLs} {lo lo1 : zL} {i : Nat} (L : zLo ρ loc lo) (hx : zRx ρ1 ρ) (L1 : zLo ρ1 sloc lo1) (h : zky loc sloc i = true) : z_get lo i = z_get lo1 i := by
  unfold zky at h
  split at h
  case h_2 => cases h
  next a b ha hb =>
  have e := of_decide_eq_true h
  subst e
  obtain ⟨v, v1, v2⟩ := zlk_ok L hb
  obtain ⟨u, u1, u2⟩ := zlk_ok L1 ha
  have := hx _ _ u1
  rw [v1] at this
  cases this
  rw [v2, u2]
theorem zseg4 {cts : List zCt} {cand : List (List Nat)} {own : Nat} {ct : zCt} {c0 : zCut} {gs : List zTk} {fuel : Nat} {ty0 : List Nat} {h0 : zH} {sx : zX} {d0 : Nat} {ty : List Nat} {lo : zL} {h : zH} {vl vm : List Value} {Φ : zO → zH → Nat → Nat → Prop} (hst : zStable z_tt zE1 (zcM ct)) (hd : zcD ct ≤ d0) (hcts : ∀ c, c < own → ∀ c', cts[c]? = some c' → zVd z_tt zE1 c') (hΦ : ∀ o h x y, zPo z_tt zE1 ct ty0 h0 o h x y → Φ o h x y) (hck : zxs z_tt cts cand own ct (zstop4 gs) (zht4 z_tt ct c0 gs) fuel (zc_st ct c0) = true) (a2 : zExt ty0 ty) (T : zTY z_tt ty h) (E : zE1 ty h) (F : zFm (zcM ct) ty0 h0 h) (H1 : zVl ty lo c0.2.1 vl) (H2 : zVm ty lo h c0.2.2.1 vm) (hcut : ∀ g ∈ gs, ∀ (ty' : List Nat) (lo' : zL) (h' : zH) (vl' vm' : List Value), zExt ty0 ty' → zTY z_tt ty' h' → zE1 ty' h' → zFm (zcM ct) ty0 h0 h' → zVl ty' lo' g.1.2.1 vl' → zVm ty' lo' h' g.1.2.2.1 vm' → (∀ q ∈ g.1.2.2.2, zcv2 lo' h' q.1 = zcv2 lo h q.2.1 + q.2.2) → (∀ i ∈ g.2, z_get lo' i = z_get lo i) → zGo sx d0 Φ [(zcJ ct, g.1.1, lo', [])] h' 0 0) : zGo sx d0 Φ [(zcJ ct, c0.1, lo, [])] h 0 0 := by
  refine zxs_ok3 (ρ0 := vl ++ vm) hst hd hcts hΦ (fun s cf h' X Y R hh => ?_) fuel (zc_st ct c0) _ h 0 0 (zc_start a2 T E F H1 H2) hck
  obtain ⟨ty', ρ, a1, b2, b3, b4, b5, b6, b7, b10, b11, b12⟩ := R
  unfold zht4 at hh
  split at hh
  case h_2 => cases hh
  next f hf =>
  rw [hf] at b10
  match cf, b10 with
  | [(j, k, lo', st)], b10 =>
  obtain ⟨c1, c2, c3, c4, -⟩ := b10
  obtain ⟨g, hg, h9⟩ := List.any_eq_true.mp hh
  rw [Bool.and_eq_true] at h9
  obtain ⟨h9, h8⟩ := h9
  unfold zht1 at h9
  simp only [Bool.and_eq_true, decide_eq_true_eq] at h9
  obtain ⟨d1, d2, d3, d4, d5, d6, d7, d8⟩ := h9
  obtain ⟨vl', hvl⟩ := za_l_ok b6 c3 d6
  obtain ⟨vm', hvm⟩ := za_m_ok b3 b6 b7 c3 d7
  have hst9 : st = [] := by
    rw [List.isEmpty_iff.mp d3] at c4
    cases st with
    | nil => rfl
    | cons _ _ => exact c4.elim
  subst hst9
  dsimp only at c1 c2
  have e1 : X = 0 := by omega
  have e2 : Y = 0 := by omega
  subst e1
  subst e2
  have := hcut g hg ty' lo' h' vl' vm' b2 b3 b4 b5 hvl hvm (fun q hq => zdq_ok b6 c3 b7 a1 (zc_lo H1) (zc_mm H1 H2) (List.all_eq_true.mp d8 q hq)) (fun i hi => zky_ok c3 a1 (zc_lo H1) (List.all_eq_true.mp h8 i hi))
  rw [← c1, ← c2, ← d1, d2]
  exact this
theorem zok_go {sx : zX} {d j k : Nat} {lo : zL} {h : zH} {Φ : zO → zH → Nat → Nat → Prop} (H : zGo sx d Φ [(j, k, lo, [])] h 0 0) : z_ok sx d j k lo [] h Φ := H
/-! append of the class -/
noncomputable def zL1 (h : zH) (t : Nat) (n : Int) : Prop := ∃ (e : zE) (x : Int32), h[t]? = some e ∧ z_rd e 1 = some (.int x) ∧ x.toInt = n
noncomputable def zC_ap : zCt := (85, [(2, 2, 2), zFull], [(0, 1, 0)], [], [(2, 1, 1), (3, 0, 399)], 0, (0, 0, 0, 0), [])
noncomputable def zA2 : zCut := (2, [(0, (2, 2, 2)), (1, zFull), (2, (0, 0, 24))], [(0, 1, (0, 0, 399))], [])
noncomputable def zAg2 : zTk := ((2, [(2, (0, -8, 16))], [(0, 1, (0, 0, 400))], [((3, 0, 1, 0), (3, 0, 1, 0), 1), ((1, 2, 0, 0), (1, 2, 0, 0), -8)]), [0, 1])
theorem zK_ap : zxs z_tt zCtl zCand 34 zC_ap (zstop4 [zAg2]) (zht4 z_tt zC_ap zA2 [zAg2]) 4000 (zc_st zC_ap zA2) = true := by decide +kernel
theorem zcvf {lo : zL} {h : zH} {i a : Nat} {b : Nat} {z : Int} {e : zE} {x : Int32} (hg : z_get lo i = some (.ref a)) (he : h[a]? = some e) (hr : z_rd e b = some (.int x)) : zcv2 lo h (3, i, (b : Int), z) = x.toInt := by
  unfold zcv2
  rw [if_neg (show ¬ 3 ≤ 2 by decide), hg]
  dsimp only
  rw [he]
  dsimp only
  rw [Int.toNat_natCast, hr]
theorem zJ_85 : zJ3 85 z_m85 z_c85 z_h85 := ⟨rfl, rfl, rfl⟩
set_option maxRecDepth 100000 in
theorem zLp_85 {sx : zX} {d : Nat} {ty0 : List Nat} {h0 : zH} {t : Nat} {v : Int32} {N0 : Int} (H : ∀ c, c < 34 → ∀ c', zCtl[c]? = some c' → zVd z_tt zE1 c') (ht : ty0[t]? = some 2) : ∀ (r : Nat) (N : Int) (ty : List Nat) (lo : zL) (h : zH) (sv : Int32), r ≤ 4 → N0 = N + (r : Int) → sv.toInt = 8 * (r : Int) - 8 → 0 ≤ N → N + (r : Int) ≤ 400 → zExt ty0 ty → zTY z_tt ty h → zE1 ty h → zFm (zcM zC_ap) ty0 h0 h → z_get lo 0 = some (.ref t) → z_get lo 1 = some (.int v) → z_get lo 2 = some (.int sv) → zL1 h t N → z_ok sx d 85 2 lo [] h (zRq (fun w h' => w = none ∧ ∃ ty', zExt ty0 ty' ∧ zTY z_tt ty' h' ∧ zE1 ty' h' ∧ zFm (zcM zC_ap) ty0 h0 h' ∧ zL1 h' t N0))
  | 0, N, ty, lo, h, sv, hr, hN0, hs, hN, hN4, X, T, E, F, g0, g1, g2, hL => by
    refine zh_ild zJ_85 (a := 2) (b := 0) (z := 0) rfl (k' := 3) rfl g2 ?_
    refine zh_if zJ_85 (a := 26) (b := 2) (z := 0) rfl (fun hc => ?_) (fun hc => absurd (zcmp_lt.mpr (by rw [show (0 : Int32).toInt = 0 from rfl]; omega)) hc)
    refine zh_vret zJ_85 (a := 0) (b := 0) (z := 0) rfl ?_
    exact ⟨_, rfl, rfl, rfl, rfl, ty, X, T, E, F, by rw [show N0 = N by omega]; exact hL⟩
  | r + 1, N, ty, lo, h, sv, hr, hN0, hs, hN, hN4, X, T, E, F, g0, g1, g2, hL => by
    obtain ⟨e, x, he, hrd, ex⟩ := hL
    refine zok_go ?_
    refine zseg4 (ct := zC_ap) (c0 := zA2) (gs := [zAg2]) (d0 := d) (vl := [.ref t, .int v, .int sv]) (vm := [.int x]) (zE1_stable (by decide +kernel)) (Nat.zero_le _) H (zPo_no rfl rfl _) zK_ap X T E F ⟨g0, ⟨t, 2, rfl, X t 2 ht, Int.le_refl _, Int.le_refl _⟩, g1, zFull_ok v, g2, ⟨sv, rfl, by omega, by omega⟩, trivial⟩ ⟨⟨t, e, 1, g0, he, rfl, hrd⟩, ⟨x, rfl, by omega, by omega⟩, trivial⟩ (fun g hg ty' lo' h' vl' vm' X' T' E' F' V W R K => ?_)
    rw [List.mem_singleton.mp hg] at V W R K ⊢
    match vl', V with
    | [u2], V =>
    match vm', W with
    | [m], W =>
    obtain ⟨k2, ⟨y2, rfl, -, -⟩, -⟩ := V
    obtain ⟨⟨t', e', i', k0, he', hi', hrd'⟩, ⟨m1, rfl, -, -⟩, -⟩ := W
    have j0 := (K 0 (by decide)).trans g0
    have j1 := (K 1 (by decide)).trans g1
    rw [k0] at j0
    cases j0
    have hi9 : i' = 1 := by have : (1 : Int) = (i' : Int) := hi'; omega
    subst hi9
    have r1 := R ((3, 0, 1, 0), (3, 0, 1, 0), 1) (by decide)
    have r2 := R ((1, 2, 0, 0), (1, 2, 0, 0), -8) (by decide)
    rw [show zcv2 lo' h' (3, 0, 1, 0) = m1.toInt from zcvf (b := 1) k0 he' hrd', show zcv2 lo h (3, 0, 1, 0) = x.toInt from zcvf (b := 1) g0 he hrd] at r1
    rw [zcvl k2, zcvl g2] at r2
    have r1 : m1.toInt = x.toInt + 1 := r1
    have r2 : y2.toInt = sv.toInt + -8 := r2
    exact zLp_85 H ht r (N + 1) ty' lo' h' y2 (by omega) (by omega) (by omega) (by omega) (by omega) X' T' E' F' k0 j1 k2 ⟨e', m1, he', hrd', by omega⟩
set_option maxRecDepth 100000 in
theorem zS_85 {sx : zX} {d : Nat} {ty : List Nat} {h : zH} {t : Nat} {v : Int32} {N : Int} (H : ∀ c, c < 34 → ∀ c', zCtl[c]? = some c' → zVd z_tt zE1 c') (T : zTY z_tt ty h) (E : zE1 ty h) (ht : ty[t]? = some 2) (hL : zL1 h t N) (h1 : 0 ≤ N) (h2 : N + ((4 : Nat) : Int) ≤ 400) : z_ok sx d 85 0 (lv_args 0 [.ref t, .int v]) [] h (zRq (fun w h' => w = none ∧ ∃ ty', zExt ty ty' ∧ zTY z_tt ty' h' ∧ zE1 ty' h' ∧ zFm (zcM zC_ap) ty h h' ∧ zL1 h' t (N + ((4 : Nat) : Int)))) := by
  show z_ok sx d 85 0 [(0, .ref t), (1, .int v)] [] h _
  refine zh zJ_85 (i := (0, 0, 0, 24)) rfl rfl (k' := 1) (lo' := [(0, .ref t), (1, .int v)]) (st' := [.int (Int32.ofInt (24))]) (h' := h) rfl ?_
  refine zh zJ_85 (i := (4, 2, 0, 0)) rfl rfl (k' := 2) (lo' := [(2, .int (Int32.ofInt (24))), (0, .ref t), (1, .int v)]) (st' := []) (h' := h) rfl ?_
  exact zLp_85 H ht 4 N ty _ h _ (Nat.le_refl _) rfl rfl h1 h2 zExt.rf T E zFm.rf rfl rfl rfl hL
/-- the class's tape, at t, of length n -/
noncomputable def zTq (ty : List Nat) (h : zH) (ax t : Nat) (n : Int) : Prop := ty[ax]? = some 1 ∧ ty[t]? = some 2 ∧ (∃ e, h[ax]? = some e ∧ z_rd e 0 = some (.ref t)) ∧ zL1 h t n
theorem zTp.q {ty : List Nat} {h : zH} {ax : Nat} {n : Int} (ha : ty[ax]? = some 1) (H : zTp ty h ax n) : ∃ t, zTq ty h ax t n := by
  obtain ⟨e1, e2, t, x, a1, a2, a3, a4, a5, a6⟩ := H
  exact ⟨t, ha, a3, ⟨e1, a1, a2⟩, e2, x, a4, a5, a6⟩
theorem zTq.p {ty : List Nat} {h : zH} {ax t : Nat} {n : Int} (H : zTq ty h ax t n) : zTp ty h ax n := by
  obtain ⟨a0, a1, ⟨e, a2, a3⟩, e2, x, a4, a5, a6⟩ := H
  exact ⟨e, e2, t, x, a2, a3, a1, a4, a5, a6⟩
theorem zTq.at {ty : List Nat} {h : zH} {ax t : Nat} {n : Int} (T : zTY z_tt ty h) (H : zTq ty h ax t n) : ∃ (fs ts : List Value) (x : Int32), h[ax]? = some (.inr (8, fs)) ∧ fs.length = 8 ∧ fs[0]? = some (.ref t) ∧ h[t]? = some (.inr (6, ts)) ∧ ts.length = 4 ∧ ts[1]? = some (.int x) ∧ x.toInt = n := by
  obtain ⟨a0, a1, ⟨e, a2, a3⟩, e2, x, a4, a5, a6⟩ := H
  obtain ⟨fs, b1, b2⟩ := zcell0 (c := 8) (n := 8) T a0 rfl rfl rfl
  obtain ⟨ts, c1, c2⟩ := zcell0 (c := 6) (n := 4) T a1 rfl rfl rfl
  rw [b1] at a2
  cases a2
  rw [c1] at a4
  cases a4
  exact ⟨fs, ts, x, b1, b2, a3, c1, c2, a5, a6⟩
theorem zTq.app {ms : List zMod} {ty ty' : List Nat} {h h' : zH} {ax t : Nat} {n n' : Int} (H : zTq ty h ax t n) (T' : zTY z_tt ty' h') (X : zExt ty ty') (F : zFm ms ty h h') (h1 : ¬ zIn ms 1 0) (hL : zL1 h' t n') : zTq ty' h' ax t n' := by
  obtain ⟨a0, a1, ⟨e, a2, a3⟩, -⟩ := H
  obtain ⟨f1, b1⟩ := zat_ex (h := h) T' X a0
  exact ⟨X ax 1 a0, X t 2 a1, ⟨f1, b1, (F.2 ax 1 e f1 a0 a2 b1 0 h1).trans a3⟩, hL⟩
theorem zJ_118 : zJ3 118 z_m118 z_c118 z_h118 := ⟨rfl, rfl, rfl⟩
theorem zcmp_le {x y : Int32} : z_cmp 5 x y = true ↔ x.toInt ≤ y.toInt := by
  show (!decide (y < x)) = true ↔ _
  rw [Bool.not_eq_true', decide_eq_false_iff_not, Int32.lt_iff_toInt_lt]
  omega
set_option maxRecDepth 100000 in
theorem zS_118 {sx : zX} {d : Nat} {ty : List Nat} {h : zH} {ax t : Nat} {v1 v2 v3 v4 v5 : Int32} {N : Int} (H : ∀ c, c < 34 → ∀ c', zCtl[c]? = some c' → zVd z_tt zE1 c') (hd : 1 ≤ d) (T : zTY z_tt ty h) (E : zE1 ty h) (Q : zTq ty h ax t N) (h1 : 0 ≤ N) (h2 : N ≤ 400) : z_ok sx d 118 0 (lv_args 0 [.ref ax, .int v1, .int v2, .int v3, .int v4, .int v5]) [] h (zRq (fun w h' => ∃ (c : Int32) (ty' : List Nat), w = some (.int c) ∧ zExt ty ty' ∧ zTY z_tt ty' h' ∧ zE1 ty' h' ∧ zFm (zcM zC_ap) ty h h' ∧ ((N + 20 ≤ 400 ∧ c.toInt = N + 20 ∧ zTp ty' h' ax (N + 20)) ∨ (400 < N + 20 ∧ c.toInt = -1 ∧ zTp ty' h' ax N)))) := by
  show z_ok sx d 118 0 [(0, .ref ax), (1, .int v1), (2, .int v2), (3, .int v3), (4, .int v4), (5, .int v5)] [] h _
  obtain ⟨fs, ts, x, he, hl, f0, het, hlt, g1, ex⟩ := Q.at T
  refine zh zJ_118 (i := (2, 0, 0, 0)) rfl rfl (k' := 1) (lo' := [(0, .ref ax), (1, .int v1), (2, .int v2), (3, .int v3), (4, .int v4), (5, .int v5)]) (st' := [.ref ax]) (h' := h) rfl ?_
  refine zh_get zJ_118 (b := 0) (c := 8) (z := 0) rfl (k' := 2) rfl he f0 ?_
  refine zh_get zJ_118 (b := 1) (c := 6) (z := 0) rfl (k' := 3) rfl het g1 ?_
  refine zh zJ_118 (i := (0, 0, 0, 20)) rfl rfl (k' := 4) (lo' := [(0, .ref ax), (1, .int v1), (2, .int v2), (3, .int v3), (4, .int v4), (5, .int v5)]) (st' := [.int (Int32.ofInt (20)), .int x]) (h' := h) rfl ?_
  refine zh zJ_118 (i := (8, 0, 0, 0)) rfl rfl (k' := 5) (lo' := [(0, .ref ax), (1, .int v1), (2, .int v2), (3, .int v3), (4, .int v4), (5, .int v5)]) (st' := [.int (x + (Int32.ofInt (20)))]) (h' := h) rfl ?_
  refine zh zJ_118 (i := (0, 0, 0, 400)) rfl rfl (k' := 6) (lo' := [(0, .ref ax), (1, .int v1), (2, .int v2), (3, .int v3), (4, .int v4), (5, .int v5)]) (st' := [.int (Int32.ofInt (400)), .int (x + (Int32.ofInt (20)))]) (h' := h) rfl ?_
  have e20 : (x + Int32.ofInt (20)).toInt = N + 20 := zI_add ex (zI_c (by decide) (by decide)) (by omega) (by omega)
  refine zh_icmp zJ_118 (a := 9) (b := 5) (z := 0) rfl (fun hc1 => ?_) (fun hc1 => ?_)
  · have hle : N + 20 ≤ 400 := (by have := zcmp_le.mp hc1; rw [e20, zI_c (by decide) (by decide)] at this; exact this)
    refine zh zJ_118 (i := (2, 0, 0, 0)) rfl rfl (k' := 10) (lo' := [(0, .ref ax), (1, .int v1), (2, .int v2), (3, .int v3), (4, .int v4), (5, .int v5)]) (st' := [.ref ax]) (h' := h) rfl ?_
    refine zh_get zJ_118 (b := 0) (c := 8) (z := 0) rfl (k' := 11) rfl he f0 ?_
    refine zh zJ_118 (i := (1, 1, 0, 0)) rfl rfl (k' := 12) (lo' := [(0, .ref ax), (1, .int v1), (2, .int v2), (3, .int v3), (4, .int v4), (5, .int v5)]) (st' := [.int v1, .ref t]) (h' := h) rfl ?_
    refine zh_run (rest := []) (as := [.ref t, .int v1]) zJ_118 (i := (54, 85, 1, 6)) rfl (by decide) (zcal54 (xs := [.int v1]) (by omega) rfl rfl het rfl (Nat.le_of_ble_eq_true rfl) (M' := z_m85) rfl (Nat.le_of_ble_eq_true rfl)) (zS_85 (N := N) H T E Q.2.1 Q.2.2.2 (by omega) (by omega)) (fun o h1 x1 y1 q => ?_)
    obtain ⟨v, rfl, rfl, rfl, rfl, ty1, X1, T1, E1, F1, L1⟩ := q
    refine ⟨_, rfl, rfl, rfl, ?_⟩
    have Q1 := Q.app T1 X1 F1 (zNin _ _ _ (by decide +kernel)) L1
    obtain ⟨fs1, ts1, z1, he1, hl1, f01, het1, hlt1, g11, ex1⟩ := Q1.at T1
    show z_ok sx d 118 13 [(0, .ref ax), (1, .int v1), (2, .int v2), (3, .int v3), (4, .int v4), (5, .int v5)] [] h1 _
    refine zh zJ_118 (i := (2, 0, 0, 0)) rfl rfl (k' := 14) (lo' := [(0, .ref ax), (1, .int v1), (2, .int v2), (3, .int v3), (4, .int v4), (5, .int v5)]) (st' := [.ref ax]) (h' := h1) rfl ?_
    refine zh_get zJ_118 (b := 0) (c := 8) (z := 0) rfl (k' := 15) rfl he1 f01 ?_
    refine zh zJ_118 (i := (1, 2, 0, 0)) rfl rfl (k' := 16) (lo' := [(0, .ref ax), (1, .int v1), (2, .int v2), (3, .int v3), (4, .int v4), (5, .int v5)]) (st' := [.int v2, .ref t]) (h' := h1) rfl ?_
    refine zh_run (rest := []) (as := [.ref t, .int v2]) zJ_118 (i := (54, 85, 1, 6)) rfl (by decide) (zcal54 (xs := [.int v2]) (by omega) rfl rfl het1 rfl (Nat.le_of_ble_eq_true rfl) (M' := z_m85) rfl (Nat.le_of_ble_eq_true rfl)) (zS_85 (N := (N + ((4 : Nat) : Int))) H T1 E1 Q1.2.1 Q1.2.2.2 (by omega) (by omega)) (fun o h2 x2 y2 q => ?_)
    obtain ⟨v, rfl, rfl, rfl, rfl, ty2, X2, T2, E2, F2, L2⟩ := q
    refine ⟨_, rfl, rfl, rfl, ?_⟩
    have Q2 := Q1.app T2 X2 F2 (zNin _ _ _ (by decide +kernel)) L2
    obtain ⟨fs2, ts2, z2, he2, hl2, f02, het2, hlt2, g12, ex2⟩ := Q2.at T2
    show z_ok sx d 118 17 [(0, .ref ax), (1, .int v1), (2, .int v2), (3, .int v3), (4, .int v4), (5, .int v5)] [] h2 _
    refine zh zJ_118 (i := (2, 0, 0, 0)) rfl rfl (k' := 18) (lo' := [(0, .ref ax), (1, .int v1), (2, .int v2), (3, .int v3), (4, .int v4), (5, .int v5)]) (st' := [.ref ax]) (h' := h2) rfl ?_
    refine zh_get zJ_118 (b := 0) (c := 8) (z := 0) rfl (k' := 19) rfl he2 f02 ?_
    refine zh zJ_118 (i := (1, 3, 0, 0)) rfl rfl (k' := 20) (lo' := [(0, .ref ax), (1, .int v1), (2, .int v2), (3, .int v3), (4, .int v4), (5, .int v5)]) (st' := [.int v3, .ref t]) (h' := h2) rfl ?_
    refine zh_run (rest := []) (as := [.ref t, .int v3]) zJ_118 (i := (54, 85, 1, 6)) rfl (by decide) (zcal54 (xs := [.int v3]) (by omega) rfl rfl het2 rfl (Nat.le_of_ble_eq_true rfl) (M' := z_m85) rfl (Nat.le_of_ble_eq_true rfl)) (zS_85 (N := ((N + ((4 : Nat) : Int)) + ((4 : Nat) : Int))) H T2 E2 Q2.2.1 Q2.2.2.2 (by omega) (by omega)) (fun o h3 x3 y3 q => ?_)
    obtain ⟨v, rfl, rfl, rfl, rfl, ty3, X3, T3, E3, F3, L3⟩ := q
    refine ⟨_, rfl, rfl, rfl, ?_⟩
    have Q3 := Q2.app T3 X3 F3 (zNin _ _ _ (by decide +kernel)) L3
    obtain ⟨fs3, ts3, z3, he3, hl3, f03, het3, hlt3, g13, ex3⟩ := Q3.at T3
    show z_ok sx d 118 21 [(0, .ref ax), (1, .int v1), (2, .int v2), (3, .int v3), (4, .int v4), (5, .int v5)] [] h3 _
    refine zh zJ_118 (i := (2, 0, 0, 0)) rfl rfl (k' := 22) (lo' := [(0, .ref ax), (1, .int v1), (2, .int v2), (3, .int v3), (4, .int v4), (5, .int v5)]) (st' := [.ref ax]) (h' := h3) rfl ?_
    refine zh_get zJ_118 (b := 0) (c := 8) (z := 0) rfl (k' := 23) rfl he3 f03 ?_
    refine zh zJ_118 (i := (1, 4, 0, 0)) rfl rfl (k' := 24) (lo' := [(0, .ref ax), (1, .int v1), (2, .int v2), (3, .int v3), (4, .int v4), (5, .int v5)]) (st' := [.int v4, .ref t]) (h' := h3) rfl ?_
    refine zh_run (rest := []) (as := [.ref t, .int v4]) zJ_118 (i := (54, 85, 1, 6)) rfl (by decide) (zcal54 (xs := [.int v4]) (by omega) rfl rfl het3 rfl (Nat.le_of_ble_eq_true rfl) (M' := z_m85) rfl (Nat.le_of_ble_eq_true rfl)) (zS_85 (N := (((N + ((4 : Nat) : Int)) + ((4 : Nat) : Int)) + ((4 : Nat) : Int))) H T3 E3 Q3.2.1 Q3.2.2.2 (by omega) (by omega)) (fun o h4 x4 y4 q => ?_)
    obtain ⟨v, rfl, rfl, rfl, rfl, ty4, X4, T4, E4, F4, L4⟩ := q
    refine ⟨_, rfl, rfl, rfl, ?_⟩
    have Q4 := Q3.app T4 X4 F4 (zNin _ _ _ (by decide +kernel)) L4
    obtain ⟨fs4, ts4, z4, he4, hl4, f04, het4, hlt4, g14, ex4⟩ := Q4.at T4
    show z_ok sx d 118 25 [(0, .ref ax), (1, .int v1), (2, .int v2), (3, .int v3), (4, .int v4), (5, .int v5)] [] h4 _
    refine zh zJ_118 (i := (2, 0, 0, 0)) rfl rfl (k' := 26) (lo' := [(0, .ref ax), (1, .int v1), (2, .int v2), (3, .int v3), (4, .int v4), (5, .int v5)]) (st' := [.ref ax]) (h' := h4) rfl ?_
    refine zh_get zJ_118 (b := 0) (c := 8) (z := 0) rfl (k' := 27) rfl he4 f04 ?_
    refine zh zJ_118 (i := (1, 5, 0, 0)) rfl rfl (k' := 28) (lo' := [(0, .ref ax), (1, .int v1), (2, .int v2), (3, .int v3), (4, .int v4), (5, .int v5)]) (st' := [.int v5, .ref t]) (h' := h4) rfl ?_
    refine zh_run (rest := []) (as := [.ref t, .int v5]) zJ_118 (i := (54, 85, 1, 6)) rfl (by decide) (zcal54 (xs := [.int v5]) (by omega) rfl rfl het4 rfl (Nat.le_of_ble_eq_true rfl) (M' := z_m85) rfl (Nat.le_of_ble_eq_true rfl)) (zS_85 (N := ((((N + ((4 : Nat) : Int)) + ((4 : Nat) : Int)) + ((4 : Nat) : Int)) + ((4 : Nat) : Int))) H T4 E4 Q4.2.1 Q4.2.2.2 (by omega) (by omega)) (fun o h5 x5 y5 q => ?_)
    obtain ⟨v, rfl, rfl, rfl, rfl, ty5, X5, T5, E5, F5, L5⟩ := q
    refine ⟨_, rfl, rfl, rfl, ?_⟩
    have Q5 := Q4.app T5 X5 F5 (zNin _ _ _ (by decide +kernel)) L5
    obtain ⟨fs5, ts5, z5, he5, hl5, f05, het5, hlt5, g15, ex5⟩ := Q5.at T5
    show z_ok sx d 118 29 [(0, .ref ax), (1, .int v1), (2, .int v2), (3, .int v3), (4, .int v4), (5, .int v5)] [] h5 _
    refine zh zJ_118 (i := (2, 0, 0, 0)) rfl rfl (k' := 30) (lo' := [(0, .ref ax), (1, .int v1), (2, .int v2), (3, .int v3), (4, .int v4), (5, .int v5)]) (st' := [.ref ax]) (h' := h5) rfl ?_
    refine zh_get zJ_118 (b := 0) (c := 8) (z := 0) rfl (k' := 31) rfl he5 f05 ?_
    refine zh_get zJ_118 (b := 1) (c := 6) (z := 0) rfl (k' := 32) rfl het5 g15 ?_
    refine zh_iret zJ_118 (a := 0) (b := 0) (z := 0) rfl (Or.inl rfl) ?_
    exact ⟨_, rfl, rfl, rfl, _, ty5, rfl, (((X1.tr X2).tr X3).tr X4).tr X5, T5, E5, ((((F1.tr X1 F2).tr (X1.tr X2) F3).tr ((X1.tr X2).tr X3) F4).tr (((X1.tr X2).tr X3).tr X4) F5), Or.inl ⟨hle, by omega, by have := Q5.p; rw [show N + 20 = N + ((4 : Nat) : Int) + ((4 : Nat) : Int) + ((4 : Nat) : Int) + ((4 : Nat) : Int) + ((4 : Nat) : Int) by omega]; exact this⟩⟩
  · have hgt : 400 < N + 20 := (by have := mt zcmp_le.mpr hc1; rw [e20, zI_c (by decide) (by decide)] at this; omega)
    refine zh zJ_118 (i := (0, 0, 0, -1)) rfl rfl (k' := 8) (lo' := [(0, .ref ax), (1, .int v1), (2, .int v2), (3, .int v3), (4, .int v4), (5, .int v5)]) (st' := [.int (Int32.ofInt (-1))]) (h' := h) rfl ?_
    refine zh_iret zJ_118 (a := 0) (b := 0) (z := 0) rfl (Or.inl rfl) ?_
    exact ⟨_, rfl, rfl, rfl, _, ty, rfl, zExt.rf, T, E, zFm.rf, Or.inr ⟨hgt, by decide, Q.p⟩⟩
theorem zJ_119 : zJ3 119 z_m119 z_c119 z_h119 := ⟨rfl, rfl, rfl⟩
set_option maxRecDepth 100000 in
theorem zS_119 {sx : zX} {d : Nat} {ty : List Nat} {h : zH} {ax t : Nat} {v : Int32} {N : Int} (T : zTY z_tt ty h) (E : zE1 ty h) (Q : zTq ty h ax t N) (h2 : N ≤ 400) : z_ok sx d 119 0 (lv_args 0 [.ref ax, .int v]) [] h (zRq (fun w h' => ∃ c : Int32, w = some (.int c) ∧ zTY z_tt ty h' ∧ zE1 ty h' ∧ zFm [(2, 1, 1)] ty h h' ∧ (((0 ≤ v.toInt ∧ v.toInt ≤ N) ∧ c = 1 ∧ zTp ty h' ax v.toInt) ∨ (¬ (0 ≤ v.toInt ∧ v.toInt ≤ N) ∧ c = 0 ∧ zTp ty h' ax N)))) := by
  show z_ok sx d 119 0 [(0, .ref ax), (1, .int v)] [] h _
  obtain ⟨fs, ts, x, he, hl, f0, het, hlt, g1, ex⟩ := Q.at T
  refine zh zJ_119 (i := (1, 1, 0, 0)) rfl rfl (k' := 1) (lo' := [(0, .ref ax), (1, .int v)]) (st' := [.int v]) (h' := h) rfl ?_
  refine zh_if zJ_119 (a := 7) (b := 2) (z := 0) rfl (fun hc2 => ?_) (fun hc2 => ?_)
  · have hv : v.toInt < 0 := zcmp_lt.mp hc2
    refine zh zJ_119 (i := (0, 0, 0, 0)) rfl rfl (k' := 8) (lo' := [(0, .ref ax), (1, .int v)]) (st' := [.int (Int32.ofInt (0))]) (h' := h) rfl ?_
    refine zh_iret zJ_119 (a := 0) (b := 0) (z := 0) rfl (Or.inr ⟨rfl, Or.inl rfl⟩) ?_
    exact ⟨_, rfl, rfl, rfl, _, rfl, T, E, zFm.rf, Or.inr ⟨by omega, rfl, Q.p⟩⟩
  · have hv : 0 ≤ v.toInt := (by have := mt zcmp_lt.mpr hc2; rw [show (0 : Int32).toInt = 0 from rfl] at this; omega)
    refine zh zJ_119 (i := (1, 1, 0, 0)) rfl rfl (k' := 3) (lo' := [(0, .ref ax), (1, .int v)]) (st' := [.int v]) (h' := h) rfl ?_
    refine zh zJ_119 (i := (2, 0, 0, 0)) rfl rfl (k' := 4) (lo' := [(0, .ref ax), (1, .int v)]) (st' := [.ref ax, .int v]) (h' := h) rfl ?_
    refine zh_get zJ_119 (b := 0) (c := 8) (z := 0) rfl (k' := 5) rfl he f0 ?_
    refine zh_get zJ_119 (b := 1) (c := 6) (z := 0) rfl (k' := 6) rfl het g1 ?_
    refine zh_icmp zJ_119 (a := 9) (b := 5) (z := 0) rfl (fun hc3 => ?_) (fun hc3 => ?_)
    · have hv2 : v.toInt ≤ N := (by have := zcmp_le.mp hc3; omega)
      refine zh zJ_119 (i := (2, 0, 0, 0)) rfl rfl (k' := 10) (lo' := [(0, .ref ax), (1, .int v)]) (st' := [.ref ax]) (h' := h) rfl ?_
      refine zh_get zJ_119 (b := 0) (c := 8) (z := 0) rfl (k' := 11) rfl he f0 ?_
      refine zh zJ_119 (i := (1, 1, 0, 0)) rfl rfl (k' := 12) (lo' := [(0, .ref ax), (1, .int v)]) (st' := [.int v, .ref t]) (h' := h) rfl ?_
      refine zputT zJ_119 (k' := 13) rfl rfl T E Q.2.1 het (by omega) (show zG ty (0, 0, 400) (.int v) from ⟨v, rfl, hv, by omega⟩) (by decide +kernel) [(2, 1, 1)] (by decide +kernel) (by decide +kernel) rfl (fun h1 T1 E1 F1 he1 hq1 => ?_)
      refine zh zJ_119 (i := (0, 0, 0, 1)) rfl rfl (k' := 14) (lo' := [(0, .ref ax), (1, .int v)]) (st' := [.int (Int32.ofInt (1))]) (h' := h1) rfl ?_
      refine zh_iret zJ_119 (a := 0) (b := 0) (z := 0) rfl (Or.inr ⟨rfl, Or.inr rfl⟩) ?_
      exact ⟨_, rfl, rfl, rfl, _, rfl, T1, E1, F1, Or.inl ⟨⟨hv, hv2⟩, rfl, (Q.app T1 zExt.rf F1 (zNin _ _ _ (by decide +kernel)) ⟨_, v, he1, List.getElem?_set_self (by omega), rfl⟩).p⟩⟩
    · have hv2 : N < v.toInt := (by have := mt zcmp_le.mpr hc3; omega)
      refine zh zJ_119 (i := (0, 0, 0, 0)) rfl rfl (k' := 8) (lo' := [(0, .ref ax), (1, .int v)]) (st' := [.int (Int32.ofInt (0))]) (h' := h) rfl ?_
      refine zh_iret zJ_119 (a := 0) (b := 0) (z := 0) rfl (Or.inr ⟨rfl, Or.inl rfl⟩) ?_
      exact ⟨_, rfl, rfl, rfl, _, rfl, T, E, zFm.rf, Or.inr ⟨by omega, rfl, Q.p⟩⟩
theorem zMp.at {ty : List Nat} {h : zH} {a : Nat} {n : Int} (T : zTY z_tt ty h) (ha : ty[a]? = some 20) (H : zMp h a n) : ∃ (fs : List Value) (x : Int32), h[a]? = some (.inr (9, fs)) ∧ fs.length = 23 ∧ fs[9]? = some (.int x) ∧ x.toInt = n := by
  obtain ⟨e1, x, a1, a2, a3⟩ := H
  obtain ⟨fs, b1, b2⟩ := zcell0 (c := 9) (n := 23) T ha rfl rfl rfl
  rw [b1] at a1
  cases a1
  exact ⟨fs, x, b1, b2, a2, a3⟩
theorem zJ_200 : zJ3 200 z_m200 z_c200 z_h200 := ⟨rfl, rfl, rfl⟩
set_option maxRecDepth 100000 in
theorem zS_200 {sx : zX} {d : Nat} {ty : List Nat} {h : zH} {a : Nat} {v : Int32} {N : Int} (T : zTY z_tt ty h) (E : zE1 ty h) (ha : ty[a]? = some 20) (Q : zMp h a N) (h9 : N ≤ 400) : z_ok sx d 200 0 (lv_args 0 [.ref a, .int v]) [] h (zRq (fun w h' => ∃ c : Int32, w = some (.int c) ∧ zTY z_tt ty h' ∧ zE1 ty h' ∧ zFm [(20, 0, 0), (20, 9, 9)] ty h h' ∧ (((0 ≤ v.toInt ∧ v.toInt ≤ N) ∧ c = 1 ∧ zMp h' a v.toInt) ∨ (¬ (0 ≤ v.toInt ∧ v.toInt ≤ N) ∧ c = 0 ∧ zMp h' a N)))) := by
  show z_ok sx d 200 0 [(0, .ref a), (1, .int v)] [] h _
  obtain ⟨fs, x, he, hl, g9, ex⟩ := Q.at T ha
  refine zh zJ_200 (i := (2, 0, 0, 0)) rfl rfl (k' := 1) (lo' := [(0, .ref a), (1, .int v)]) (st' := [.ref a]) (h' := h) rfl ?_
  refine zh zJ_200 (i := (0, 0, 0, 0)) rfl rfl (k' := 2) (lo' := [(0, .ref a), (1, .int v)]) (st' := [.int (Int32.ofInt (0)), .ref a]) (h' := h) rfl ?_
  refine zputT zJ_200 (k' := 3) rfl rfl T E ha he (by omega) (zK0 (by decide) (by decide)) (by decide +kernel) [(20, 0, 0), (20, 9, 9)] (by decide +kernel) (by decide +kernel) rfl (fun h1 T1 E1 F1 he1 hq1 => ?_)
  have Q1 : zMp h1 a N := ⟨_, x, he1, (List.getElem?_set_ne (by decide)).trans g9, ex⟩
  refine zh zJ_200 (i := (1, 1, 0, 0)) rfl rfl (k' := 4) (lo' := [(0, .ref a), (1, .int v)]) (st' := [.int v]) (h' := h1) rfl ?_
  refine zh_if zJ_200 (a := 9) (b := 2) (z := 0) rfl (fun hc4 => ?_) (fun hc4 => ?_)
  · have hv : v.toInt < 0 := zcmp_lt.mp hc4
    refine zh zJ_200 (i := (0, 0, 0, 0)) rfl rfl (k' := 10) (lo' := [(0, .ref a), (1, .int v)]) (st' := [.int (Int32.ofInt (0))]) (h' := h1) rfl ?_
    refine zh_iret zJ_200 (a := 0) (b := 0) (z := 0) rfl (Or.inr ⟨rfl, Or.inl rfl⟩) ?_
    exact ⟨_, rfl, rfl, rfl, _, rfl, T1, E1, F1, Or.inr ⟨by omega, rfl, Q1⟩⟩
  · have hv : 0 ≤ v.toInt := (by have := mt zcmp_lt.mpr hc4; rw [show (0 : Int32).toInt = 0 from rfl] at this; omega)
    refine zh zJ_200 (i := (1, 1, 0, 0)) rfl rfl (k' := 6) (lo' := [(0, .ref a), (1, .int v)]) (st' := [.int v]) (h' := h1) rfl ?_
    refine zh zJ_200 (i := (2, 0, 0, 0)) rfl rfl (k' := 7) (lo' := [(0, .ref a), (1, .int v)]) (st' := [.ref a, .int v]) (h' := h1) rfl ?_
    refine zh_get zJ_200 (b := 9) (c := 9) (z := 0) rfl (k' := 8) rfl he1 ((List.getElem?_set_ne (by decide)).trans g9) ?_
    refine zh_icmp zJ_200 (a := 11) (b := 5) (z := 0) rfl (fun hc5 => ?_) (fun hc5 => ?_)
    · have hv2 : v.toInt ≤ N := (by have := zcmp_le.mp hc5; omega)
      refine zh zJ_200 (i := (2, 0, 0, 0)) rfl rfl (k' := 12) (lo' := [(0, .ref a), (1, .int v)]) (st' := [.ref a]) (h' := h1) rfl ?_
      refine zh zJ_200 (i := (1, 1, 0, 0)) rfl rfl (k' := 13) (lo' := [(0, .ref a), (1, .int v)]) (st' := [.int v, .ref a]) (h' := h1) rfl ?_
      refine zputT zJ_200 (k' := 14) rfl rfl T1 E1 ha he1 (by simp only [List.length_set]; omega) (show zG ty (0, 0, 400) (.int v) from ⟨v, rfl, hv, by omega⟩) (by decide +kernel) [(20, 0, 0), (20, 9, 9)] (by decide +kernel) (by decide +kernel) rfl (fun h2 T2 E2 F2 he2 hq2 => ?_)
      refine zh zJ_200 (i := (0, 0, 0, 1)) rfl rfl (k' := 15) (lo' := [(0, .ref a), (1, .int v)]) (st' := [.int (Int32.ofInt (1))]) (h' := h2) rfl ?_
      refine zh_iret zJ_200 (a := 0) (b := 0) (z := 0) rfl (Or.inr ⟨rfl, Or.inr rfl⟩) ?_
      exact ⟨_, rfl, rfl, rfl, _, rfl, T2, E2, F1.tr zExt.rf F2, Or.inl ⟨⟨hv, hv2⟩, rfl, _, v, he2, List.getElem?_set_self (by simp only [List.length_set]; omega), rfl⟩⟩
    · have hv2 : N < v.toInt := (by have := mt zcmp_le.mpr hc5; omega)
      refine zh zJ_200 (i := (0, 0, 0, 0)) rfl rfl (k' := 10) (lo' := [(0, .ref a), (1, .int v)]) (st' := [.int (Int32.ofInt (0))]) (h' := h1) rfl ?_
      refine zh_iret zJ_200 (a := 0) (b := 0) (z := 0) rfl (Or.inr ⟨rfl, Or.inl rfl⟩) ?_
      exact ⟨_, rfl, rfl, rfl, _, rfl, T1, E1, F1, Or.inr ⟨by omega, rfl, Q1⟩⟩
theorem zJ_199 : zJ3 199 z_m199 z_c199 z_h199 := ⟨rfl, rfl, rfl⟩
noncomputable def zC_mf : zCt := (199, [(2, 20, 20), zFull, zFull, zFull, zFull, zFull], [(0, 1, 0)], [], [(26, 0, 399), (27, 0, 4)], 0, (0, 0, 0, 0), [])
noncomputable def zF11 : zCut := (11, [(0, (2, 20, 20)), (1, zFull), (2, zFull), (3, zFull), (4, zFull), (5, zFull)], [(0, 9, (0, 0, 380))], [])
noncomputable def zF38 : zCut := (38, [(0, (2, 20, 20)), (6, (0, 0, 19))], [(0, 9, (0, 0, 380)), (0, 15, (2, 27, 27))], [])
noncomputable def zFg1 : zTk := ((38, [(6, (0, 0, 0))], [(0, 15, (2, 27, 27))], []), [0])
noncomputable def zFg2 : zTk := ((38, [(6, (0, 1, 20))], [(0, 15, (2, 27, 27))], [((1, 6, 0, 0), (1, 6, 0, 0), 1)]), [0])
theorem zK_mf1 : zxs z_tt zCtl zCand 34 zC_mf (zstop4 [zFg1]) (zht4 z_tt zC_mf zF11 [zFg1]) 4000 (zc_st zC_mf zF11) = true := by decide +kernel
theorem zK_mf2 : zxs z_tt zCtl zCand 34 zC_mf (zstop4 [zFg2]) (zht4 z_tt zC_mf zF38 [zFg2]) 4000 (zc_st zC_mf zF38) = true := by decide +kernel
set_option maxRecDepth 100000 in
theorem zLp_199 {sx : zX} {d : Nat} {ty0 : List Nat} {h0 : zH} {a : Nat} {N : Int} (H : ∀ c, c < 34 → ∀ c', zCtl[c]? = some c' → zVd z_tt zE1 c') (ha : ty0[a]? = some 20) (Q : zMp h0 a N) (h1 : 0 ≤ N) (h2 : N ≤ 380) : ∀ (r : Nat) (ty : List Nat) (lo : zL) (h : zH) (k : Int32), r ≤ 20 → k.toInt = 20 - (r : Int) → zExt ty0 ty → zTY z_tt ty h → zE1 ty h → zFm (zcM zC_mf) ty0 h0 h → z_get lo 0 = some (.ref a) → z_get lo 6 = some (.int k) → z_ok sx d 199 38 lo [] h (zRq (fun w h' => ∃ (c : Int32) (ty' : List Nat), w = some (.int c) ∧ c.toInt = N + 20 ∧ zExt ty0 ty' ∧ zTY z_tt ty' h' ∧ zE1 ty' h' ∧ zFm [(20, 9, 9), (26, 0, 399), (27, 0, 4)] ty0 h0 h' ∧ zMp h' a (N + 20)))
  | 0, ty, lo, h, k, hr, hk, X, T, E, F, g0, g6 => by
    obtain ⟨fs, x, he, hl, g9, ex⟩ := (Q.keep ha T X F (zNin _ _ _ (by decide +kernel))).at T (X a 20 ha)
    refine zh_ild zJ_199 (a := 6) (b := 0) (z := 0) rfl (k' := 39) rfl g6 ?_
    refine zh zJ_199 (i := (0, 0, 0, 20)) rfl rfl (k' := 40) (lo' := lo) (st' := [.int (Int32.ofInt (20)), .int k]) (h' := h) rfl ?_
    refine zh_icmp zJ_199 (a := 65) (b := 3) (z := 0) rfl (fun hc => ?_) (fun hc => absurd (zcmp_ge.mpr (by rw [zI_c (by decide) (by decide)]; omega)) hc)
    refine zh_ald zJ_199 (a := 0) (b := 0) (z := 0) rfl (k' := 66) rfl g0 ?_
    refine zh zJ_199 (i := (27, 0, 0, 0)) rfl rfl (k' := 67) (lo' := lo) (st' := [.ref a, .ref a]) (h' := h) rfl ?_
    refine zh_get zJ_199 (b := 9) (c := 9) (z := 0) rfl (k' := 68) rfl he g9 ?_
    refine zh zJ_199 (i := (0, 0, 0, 20)) rfl rfl (k' := 69) (lo' := lo) (st' := [.int (Int32.ofInt (20)), .int x, .ref a]) (h' := h) rfl ?_
    refine zh zJ_199 (i := (8, 0, 0, 0)) rfl rfl (k' := 70) (lo' := lo) (st' := [.int (x + Int32.ofInt (20)), .ref a]) (h' := h) rfl ?_
    have e20 : (x + Int32.ofInt (20)).toInt = N + 20 := zI_add ex (zI_c (by decide) (by decide)) (by omega) (by omega)
    refine zputT zJ_199 (k' := 71) rfl rfl T E (X a 20 ha) he (by omega) (show zG ty (0, 0, 400) (.int (x + Int32.ofInt (20))) from ⟨_, rfl, by omega, by omega⟩) (by decide +kernel) [(20, 9, 9)] (by decide +kernel) (by decide +kernel) rfl (fun h1 T1 E1 F1 he1 hq1 => ?_)
    refine zh_ald zJ_199 (a := 0) (b := 0) (z := 0) rfl (k' := 72) rfl g0 ?_
    refine zh_get zJ_199 (b := 9) (c := 9) (z := 0) rfl (k' := 73) rfl he1 (List.getElem?_set_self (by omega)) ?_
    refine zh_iret zJ_199 (a := 0) (b := 0) (z := 0) rfl (Or.inl rfl) ?_
    exact ⟨_, rfl, rfl, rfl, _, ty, rfl, e20, X, T1, E1, (F.wide (by decide +kernel)).tr X (F1.wide (by decide +kernel)), _, _, he1, List.getElem?_set_self (by omega), e20⟩
  | r + 1, ty, lo, h, k, hr, hk, X, T, E, F, g0, g6 => by
    obtain ⟨fs, x, he, hl, g9, ex⟩ := (Q.keep ha T X F (zNin _ _ _ (by decide +kernel))).at T (X a 20 ha)
    obtain ⟨w, g15, hw⟩ := zfd2 (b := 15) (u := 27) T (X a 20 ha) he (by omega) (by decide +kernel)
    refine zok_go ?_
    refine zseg4 (ct := zC_mf) (c0 := zF38) (gs := [zFg2]) (d0 := d) (vl := [.ref a, .int k]) (vm := [.int x, .ref w]) (zE1_stable (by decide +kernel)) (Nat.zero_le _) H (zPo_no rfl rfl _) zK_mf2 X T E F ⟨g0, ⟨a, 20, rfl, X a 20 ha, Int.le_refl _, Int.le_refl _⟩, g6, ⟨k, rfl, by omega, by omega⟩, trivial⟩ ⟨⟨a, _, 9, g0, he, rfl, g9⟩, ⟨x, rfl, by omega, by omega⟩, ⟨a, _, 15, g0, he, rfl, g15⟩, ⟨w, 27, rfl, hw, Int.le_refl _, Int.le_refl _⟩, trivial⟩ (fun g hg ty' lo' h' vl' vm' X' T' E' F' V W R K => ?_)
    rw [List.mem_singleton.mp hg] at V W R K ⊢
    match vl', V with
    | [u2], V =>
    obtain ⟨k2, ⟨y2, rfl, -, -⟩, -⟩ := V
    have j0 := (K 0 (by decide)).trans g0
    have r2 := R ((1, 6, 0, 0), (1, 6, 0, 0), 1) (by decide)
    rw [zcvl k2, zcvl g6] at r2
    have r2 : y2.toInt = k.toInt + 1 := r2
    exact zLp_199 H ha Q h1 h2 r ty' lo' h' y2 (by omega) (by omega) X' T' E' F' j0 k2
set_option maxRecDepth 100000 in
theorem zS_199 {sx : zX} {d : Nat} {ty : List Nat} {h : zH} {a : Nat} {v1 v2 v3 v4 v5 : Int32} {N : Int} (H : ∀ c, c < 34 → ∀ c', zCtl[c]? = some c' → zVd z_tt zE1 c') (T : zTY z_tt ty h) (E : zE1 ty h) (ha : ty[a]? = some 20) (Q : zMp h a N) (h9 : 0 ≤ N) (h10 : N ≤ 400) : z_ok sx d 199 0 (lv_args 0 [.ref a, .int v1, .int v2, .int v3, .int v4, .int v5]) [] h (zRq (fun w h' => ∃ (c : Int32) (ty' : List Nat), w = some (.int c) ∧ zExt ty ty' ∧ zTY z_tt ty' h' ∧ zE1 ty' h' ∧ zFm [(20, 0, 0), (20, 9, 9), (26, 0, 399), (27, 0, 4)] ty h h' ∧ ((N + 20 ≤ 400 ∧ c.toInt = N + 20 ∧ zMp h' a (N + 20)) ∨ (400 < N + 20 ∧ c.toInt = -1 ∧ zMp h' a N)))) := by
  show z_ok sx d 199 0 [(0, .ref a), (1, .int v1), (2, .int v2), (3, .int v3), (4, .int v4), (5, .int v5)] [] h _
  obtain ⟨fs, x, he, hl, g9, ex⟩ := Q.at T ha
  refine zh zJ_199 (i := (2, 0, 0, 0)) rfl rfl (k' := 1) (lo' := [(0, .ref a), (1, .int v1), (2, .int v2), (3, .int v3), (4, .int v4), (5, .int v5)]) (st' := [.ref a]) (h' := h) rfl ?_
  refine zh zJ_199 (i := (0, 0, 0, 0)) rfl rfl (k' := 2) (lo' := [(0, .ref a), (1, .int v1), (2, .int v2), (3, .int v3), (4, .int v4), (5, .int v5)]) (st' := [.int (Int32.ofInt (0)), .ref a]) (h' := h) rfl ?_
  refine zputT zJ_199 (k' := 3) rfl rfl T E ha he (by omega) (zK0 (by decide) (by decide)) (by decide +kernel) [(20, 0, 0)] (by decide +kernel) (by decide +kernel) rfl (fun h1 T1 E1 F1 he1 hq1 => ?_)
  have g91 := (List.getElem?_set_ne (l := fs) (i := 0) (j := 9) (a := .int (Int32.ofInt (0))) (by decide)).trans g9
  have Q1 : zMp h1 a N := ⟨_, x, he1, g91, ex⟩
  refine zh zJ_199 (i := (2, 0, 0, 0)) rfl rfl (k' := 4) (lo' := [(0, .ref a), (1, .int v1), (2, .int v2), (3, .int v3), (4, .int v4), (5, .int v5)]) (st' := [.ref a]) (h' := h1) rfl ?_
  refine zh_get zJ_199 (b := 9) (c := 9) (z := 0) rfl (k' := 5) rfl he1 g91 ?_
  refine zh zJ_199 (i := (0, 0, 0, 20)) rfl rfl (k' := 6) (lo' := [(0, .ref a), (1, .int v1), (2, .int v2), (3, .int v3), (4, .int v4), (5, .int v5)]) (st' := [.int (Int32.ofInt (20)), .int x]) (h' := h1) rfl ?_
  refine zh zJ_199 (i := (8, 0, 0, 0)) rfl rfl (k' := 7) (lo' := [(0, .ref a), (1, .int v1), (2, .int v2), (3, .int v3), (4, .int v4), (5, .int v5)]) (st' := [.int (x + (Int32.ofInt (20)))]) (h' := h1) rfl ?_
  refine zh zJ_199 (i := (0, 0, 0, 400)) rfl rfl (k' := 8) (lo' := [(0, .ref a), (1, .int v1), (2, .int v2), (3, .int v3), (4, .int v4), (5, .int v5)]) (st' := [.int (Int32.ofInt (400)), .int (x + (Int32.ofInt (20)))]) (h' := h1) rfl ?_
  have e20 : (x + Int32.ofInt (20)).toInt = N + 20 := zI_add ex (zI_c (by decide) (by decide)) (by omega) (by omega)
  refine zh_icmp zJ_199 (a := 11) (b := 5) (z := 0) rfl (fun hc6 => ?_) (fun hc6 => ?_)
  · have hle : N + 20 ≤ 400 := (by have := zcmp_le.mp hc6; rw [e20, zI_c (by decide) (by decide)] at this; exact this)
    have hgo := zseg4 (ct := zC_mf) (c0 := zF11) (gs := [zFg1]) (d0 := d) (sx := sx) (lo := [(0, .ref a), (1, .int v1), (2, .int v2), (3, .int v3), (4, .int v4), (5, .int v5)]) (h := h1) (ty := ty) (ty0 := ty) (h0 := h1) (Φ := zRq (fun w h' => ∃ (c : Int32) (ty' : List Nat), w = some (.int c) ∧ c.toInt = N + 20 ∧ zExt ty ty' ∧ zTY z_tt ty' h' ∧ zE1 ty' h' ∧ zFm [(20, 9, 9), (26, 0, 399), (27, 0, 4)] ty h1 h' ∧ zMp h' a (N + 20))) (vl := [.ref a, .int v1, .int v2, .int v3, .int v4, .int v5]) (vm := [.int x]) (zE1_stable (by decide +kernel)) (Nat.zero_le _) H (zPo_no rfl rfl _) zK_mf1 zExt.rf T1 E1 zFm.rf ⟨rfl, ⟨a, 20, rfl, ha, Int.le_refl _, Int.le_refl _⟩, rfl, zFull_ok _, rfl, zFull_ok _, rfl, zFull_ok _, rfl, zFull_ok _, rfl, zFull_ok _, trivial⟩ ⟨⟨a, _, 9, rfl, he1, rfl, g91⟩, ⟨x, rfl, by omega, by omega⟩, trivial⟩ (fun g hg ty' lo' h' vl' vm' X' T' E' F' V W R K => by
      rw [List.mem_singleton.mp hg] at V W R K ⊢
      match vl', V with
      | [u2], V =>
      obtain ⟨k2, ⟨y2, rfl, y3, y4⟩, -⟩ := V
      have j0 := (K 0 (by decide)).trans (show z_get _ 0 = some (.ref a) from rfl)
      exact zLp_199 H ha Q1 h9 (by omega) 20 ty' lo' h' y2 (Nat.le_refl _) (by omega) X' T' E' F' j0 k2)
    refine z_ok.imp hgo (fun o h' x9 y9 q => ?_)
    obtain ⟨v, q0, q1, q2, c, ty', q3, q4, X, T', E', F', M'⟩ := q
    exact ⟨v, q0, q1, q2, c, ty', q3, X, T', E', (F1.wide (by decide +kernel)).tr zExt.rf (F'.wide (by decide +kernel)), Or.inl ⟨hle, q4, M'⟩⟩
  · have hgt : 400 < N + 20 := (by have := mt zcmp_le.mpr hc6; rw [e20, zI_c (by decide) (by decide)] at this; omega)
    refine zh zJ_199 (i := (0, 0, 0, -1)) rfl rfl (k' := 10) (lo' := [(0, .ref a), (1, .int v1), (2, .int v2), (3, .int v3), (4, .int v4), (5, .int v5)]) (st' := [.int (Int32.ofInt (-1))]) (h' := h1) rfl ?_
    refine zh_iret zJ_199 (a := 0) (b := 0) (z := 0) rfl (Or.inl rfl) ?_
    exact ⟨_, rfl, rfl, rfl, _, ty, rfl, zExt.rf, T1, E1, F1.wide (by decide +kernel), Or.inr ⟨hgt, by decide, Q1⟩⟩
end
section
/-! the class's lawRead; printed with wip/gen/gen_lrd.py -/
section ZHA
variable {sx : zX} {d j k : Nat} {lo : zL} {st : List Value} {h : zH} {Ψ : zO → zH → Nat → Nat → Prop} {M : zMi} {cs : List zI} {hs : List zHd} {i : zI}
/-- a step that makes something -/
theorem zha {k' : Nat} {lo' : zL} {st' : List Value} {h' : zH} {x y : Nat} (J : zJ3 j M cs hs) (hi : cs[k]? = some i) (hn : znc i.1 = true) (ho : (z_ops.getD i.1 z_no) sx d i.2.1 i.2.2.1 i.2.2.2 k lo st h = some (k', lo', st', h', x, y)) (kk : z_ok sx d j k' lo' st' h' (fun o h9 a b => Ψ o h9 (a + x) (b + y))) : z_ok sx d j k lo st h Ψ := by
  have hn := of_decide_eq_true hn
  exact z_ok.step J.1 J.2.1 J.2.2 hi (z_fin_no ⟨hn.1, hn.2.1, hn.2.2.1, hn.2.2.2.1, hn.2.2.2.2.1⟩) (z_cal_non hn.2.2.2.2.2) ho kk
theorem zh_aret {a b r : Nat} {z : Int} (J : zJ3 j M cs hs) (hi : cs[k]? = some (52, a, b, z)) (kk : Ψ (.inl (some (.ref r))) h 0 0) : z_ok sx d j k lo [.ref r] h Ψ := z_ok.fin J.1 J.2.1 J.2.2 hi rfl kk
theorem zh_oinit {a b k' r : Nat} {z : Int} (J : zJ3 j M cs hs) (hi : cs[k]? = some (57, a, b, z)) (hk : k + 1 = k') (hd : 6 ≤ d) (hz : z_cat st ≤ 8) (kk : z_ok sx d j k' lo st h Ψ) : z_ok sx d j k lo (.ref r :: st) h Ψ := by
  refine zh J hi rfl ?_ kk
  show zo_oinit sx d a b z k lo (.ref r :: st) h = _
  unfold zo_oinit
  dsimp only
  rw [if_pos ⟨hd, hz⟩, hk]
theorem zcal56 {j' n r : Nat} {c : Int} {xs rest : List Value} {M' : zMi} (hd : 0 < d) (hst : st = xs ++ .ref r :: rest) (hx : xs.length = n) (hz : z_cat rest ≤ 8) (hM : z_ms[j']? = some M') (hl : (lg_sl (.ref r :: xs.reverse)).length ≤ M'.2.2.2.1) : z_cal (56, j', n, c) d st h = some (j', .ref r :: xs.reverse, rest) := by
  subst hst
  have h0 : z_cal0 (56, j', n, c) d (xs ++ .ref r :: rest) h = some (j', .ref r :: xs.reverse, rest) := by
    unfold z_cal0
    have e1 : ¬ (d = 0 ∨ (xs ++ Value.ref r :: rest).length < n) := by
      rw [List.length_append, List.length_cons]
      omega
    have e2 : (xs ++ Value.ref r :: rest).drop n = .ref r :: rest := by rw [← hx]; exact List.drop_left
    have e3 : (xs ++ Value.ref r :: rest).take n = xs := by rw [← hx]; exact List.take_left
    dsimp only
    rw [if_neg e1, e2, e3]
    dsimp only
    rw [if_pos hz]
    rfl
  unfold z_cal
  rw [h0]
  dsimp only
  rw [hM]
  dsimp only
  rw [if_pos hl]
end ZHA
theorem zapp_lt {h es : zH} {a : Nat} {e : zE} (he : h[a]? = some e) : (h ++ es)[a]? = some e := by
  rw [List.getElem?_append_left (List.getElem?_eq_some_iff.mp he).1]
  exact he
theorem zapp_at {h es : zH} {e : zE} : (h ++ e :: es)[h.length]? = some e := by
  rw [List.getElem?_append_right (Nat.le_refl _), Nat.sub_self]
  rfl
theorem zapp_set {h : zH} {e e' : zE} : (h ++ [e]).set h.length e' = h ++ [e'] := by
  rw [List.set_append_right _ _ (Nat.le_refl _), Nat.sub_self]
  rfl
theorem zJ_314 : zJ3 314 z_m314 z_c314 z_h314 := ⟨rfl, rfl, rfl⟩
set_option maxRecDepth 100000 in
theorem zS_314 {sx : zX} {d s n X : Nat} {h : zH} {f : Nat → Int32} {x : Int32} (hd : 6 ≤ d) (he : h[s]? = some (.inl (0, (n, .inl f)))) (hn : n ≤ 400) (hx : x.toInt = (X : Int)) (hX : X ≤ n) (hB : h.length < zB) : z_ok sx d 314 0 (lv_args 0 [.ref s, .int x]) [] h (fun o h' a b => ∃ g : Nat → Int32, o = .inl (some (.ref h.length)) ∧ h' = h ++ [.inl (0, (X, .inl g))] ∧ (∀ i, i < X → g i = f i) ∧ a = 1 ∧ b = X) := by
  show z_ok sx d 314 0 [(0, .ref s), (1, .int x)] [] h _
  refine zh zJ_314 (i := (1, 1, 0, 0)) rfl rfl (k' := 1) (lo' := [(0, .ref s), (1, .int x)]) (st' := [.int x]) (h' := h) rfl ?_
  refine zh zJ_314 (i := (2, 0, 0, 0)) rfl rfl (k' := 2) (lo' := [(0, .ref s), (1, .int x)]) (st' := [.ref s, .int x]) (h' := h) rfl ?_
  refine zh_alen zJ_314 (a := 0) (b := 0) (z := 0) rfl (k' := 3) rfl he ?_
  refine zh_icmp zJ_314 (a := 8) (b := 1) (z := 0) rfl (fun hc1 => ?_) (fun hc1 => ?_)
  · refine zh zJ_314 (i := (1, 1, 0, 0)) rfl rfl (k' := 9) (lo' := [(0, .ref s), (1, .int x)]) (st' := [.int x]) (h' := h) rfl ?_
    refine zha zJ_314 (i := (47, 0, 0, 0)) rfl rfl (k' := 10) (lo' := [(0, .ref s), (1, .int x)]) (st' := [.ref h.length]) (h' := h ++ [.inl (0, (X, .inl (fun _ => 0)))]) (x := 1) (y := X) (by
      show zo_newa sx d 0 0 0 9 _ [.int x] h = _
      unfold zo_newa
      dsimp only
      rw [znat hx]
      exact if_pos ⟨by rw [Int32.lt_iff_toInt_lt, hx, show (0 : Int32).toInt = 0 from rfl]; omega, by omega, hB, by omega⟩) ?_
    refine zh zJ_314 (i := (5, 2, 0, 0)) rfl rfl (k' := 11) (lo' := [(2, .ref h.length), (0, .ref s), (1, .int x)]) (st' := []) (h' := (h ++ [.inl (0, (X, .inl (fun _ => 0)))])) rfl ?_
    refine zh zJ_314 (i := (2, 0, 0, 0)) rfl rfl (k' := 12) (lo' := [(2, .ref h.length), (0, .ref s), (1, .int x)]) (st' := [.ref s]) (h' := (h ++ [.inl (0, (X, .inl (fun _ => 0)))])) rfl ?_
    refine zh zJ_314 (i := (0, 0, 0, 0)) rfl rfl (k' := 13) (lo' := [(2, .ref h.length), (0, .ref s), (1, .int x)]) (st' := [.int (Int32.ofInt (0)), .ref s]) (h' := (h ++ [.inl (0, (X, .inl (fun _ => 0)))])) rfl ?_
    refine zh zJ_314 (i := (2, 2, 0, 0)) rfl rfl (k' := 14) (lo' := [(2, .ref h.length), (0, .ref s), (1, .int x)]) (st' := [.ref h.length, .int (Int32.ofInt (0)), .ref s]) (h' := (h ++ [.inl (0, (X, .inl (fun _ => 0)))])) rfl ?_
    refine zh zJ_314 (i := (0, 0, 0, 0)) rfl rfl (k' := 15) (lo' := [(2, .ref h.length), (0, .ref s), (1, .int x)]) (st' := [.int (Int32.ofInt (0)), .ref h.length, .int (Int32.ofInt (0)), .ref s]) (h' := (h ++ [.inl (0, (X, .inl (fun _ => 0)))])) rfl ?_
    refine zh zJ_314 (i := (2, 0, 0, 0)) rfl rfl (k' := 16) (lo' := [(2, .ref h.length), (0, .ref s), (1, .int x)]) (st' := [.ref s, .int (Int32.ofInt (0)), .ref h.length, .int (Int32.ofInt (0)), .ref s]) (h' := (h ++ [.inl (0, (X, .inl (fun _ => 0)))])) rfl ?_
    refine zh_alen zJ_314 (a := 0) (b := 0) (z := 0) rfl (k' := 17) rfl (zapp_lt he) ?_
    refine zh zJ_314 (i := (1, 1, 0, 0)) rfl rfl (k' := 18) (lo' := [(2, .ref h.length), (0, .ref s), (1, .int x)]) (st' := [.int x, .int (Int32.ofNat n), .int (Int32.ofInt (0)), .ref h.length, .int (Int32.ofInt (0)), .ref s]) (h' := (h ++ [.inl (0, (X, .inl (fun _ => 0)))])) rfl ?_
    have hmn : (if x < Int32.ofNat n then x else Int32.ofNat n) = x := (by
      by_cases hq : x < Int32.ofNat n
      · exact if_pos hq
      · rw [if_neg hq]
        rw [Int32.lt_iff_toInt_lt, hx, zofNat (by omega)] at hq
        exact Int32.toInt_inj.mp (by rw [hx, zofNat (by omega)]; omega))
    refine zh zJ_314 (i := (67, 0, 0, 0)) rfl rfl (k' := 19) (lo' := [(2, .ref h.length), (0, .ref s), (1, .int x)]) (st' := [.int x, .int (Int32.ofInt (0)), .ref h.length, .int (Int32.ofInt (0)), .ref s]) (h' := (h ++ [.inl (0, (X, .inl (fun _ => 0)))])) (by
      show zo_min sx d 0 0 0 18 _ [.int x, .int (Int32.ofNat n), .int (Int32.ofInt (0)), .ref h.length, .int (Int32.ofInt (0)), .ref s] _ = _
      unfold zo_min
      dsimp only
      rw [if_pos ⟨by omega, Nat.le_of_ble_eq_true rfl⟩, hmn]) ?_
    refine zh zJ_314 (i := (61, 0, 0, 0)) rfl rfl (k' := 20) (lo' := [(2, .ref h.length), (0, .ref s), (1, .int x)]) (st' := []) (h' := (h ++ [.inl (0, (X, .inl (va_cpy f (fun _ => 0) 0 0 X)))])) (by
      show zo_acopy sx d 0 0 0 19 _ [.int x, .int (Int32.ofInt (0)), .ref h.length, .int (Int32.ofInt (0)), .ref s] _ = _
      unfold zo_acopy
      dsimp only
      rw [zapp_lt he, zapp_at]
      rw [znat hx, show (Int32.ofInt (0)).toNatClampNeg = 0 from rfl]
      refine Eq.trans (if_pos ⟨by omega, Nat.zero_le _, by decide, by decide, by rw [Int32.lt_iff_toInt_lt, hx, show (0 : Int32).toInt = 0 from rfl]; omega, by omega, by omega⟩) ?_
      rw [zapp_set]) ?_
    refine zh zJ_314 (i := (2, 2, 0, 0)) rfl rfl (k' := 21) (lo' := [(2, .ref h.length), (0, .ref s), (1, .int x)]) (st' := [.ref h.length]) (h' := (h ++ [.inl (0, (X, .inl (va_cpy f (fun _ => 0) 0 0 X)))])) rfl ?_
    refine zh_aret zJ_314 (a := 0) (b := 0) (z := 0) rfl ?_
    refine ⟨_, rfl, rfl, fun i hi => ?_, Nat.zero_add _, Nat.zero_add _⟩
    unfold va_cpy
    rw [if_pos ⟨Nat.zero_le _, by omega⟩, Nat.sub_zero, Nat.zero_add]
  · have en : X = n := (by
      by_cases e : X = n
      · exact e
      · exact absurd (zcmp_ne.mpr (by rw [hx, zofNat (by omega)]; omega)) hc1)
    subst en
    refine zh zJ_314 (i := (2, 0, 0, 0)) rfl rfl (k' := 5) (lo' := [(0, .ref s), (1, .int x)]) (st' := [.ref s]) (h' := h) rfl ?_
    refine zha zJ_314 (i := (70, 0, 0, 0)) rfl rfl (k' := 6) (lo' := [(0, .ref s), (1, .int x)]) (st' := [.ref h.length]) (h' := h ++ [.inl (0, (X, .inl f))]) (x := 1) (y := X) (by
      show zo_clone sx d 0 0 0 5 _ [.ref s] h = _
      unfold zo_clone
      dsimp only
      rw [he]
      exact if_pos ⟨by omega, Nat.zero_le _, hB⟩) ?_
    refine zh zJ_314 (i := (71, 0, 0, 0)) rfl rfl (k' := 7) (lo' := [(0, .ref s), (1, .int x)]) (st' := [.ref h.length]) (h' := h ++ [.inl (0, (X, .inl f))]) (by
      show zo_cast sx d 0 0 0 6 _ [.ref h.length] (h ++ [.inl (0, (X, .inl f))]) = _
      unfold zo_cast
      dsimp only
      rw [zapp_at]
      rfl) ?_
    refine zh_aret zJ_314 (a := 0) (b := 0) (z := 0) rfl ?_
    exact ⟨f, rfl, rfl, fun i hi => rfl, Nat.zero_add _, Nat.zero_add _⟩
theorem zh_copy {sx : zX} {d j k k' : Nat} {lo : zL} {rest : List Value} {h : zH} {Ψ : zO → zH → Nat → Nat → Prop} {M : zMi} {cs : List zI} {hs : List zHd} {z : Int} {s n X : Nat} {f : Nat → Int32} {x : Int32} (J : zJ3 j M cs hs) (hi : cs[k]? = some (55, 314, 2, z)) (hk : k + 1 = k') (hd : 7 ≤ d) (he : h[s]? = some (.inl (0, (n, .inl f)))) (hn : n ≤ 400) (hx : x.toInt = (X : Int)) (hX : X ≤ n) (hB : h.length < zB) (hz : z_cat rest ≤ 8) (kk : ∀ g : Nat → Int32, (∀ i, i < X → g i = f i) → z_ok sx d j k' lo (.ref h.length :: rest) (h ++ [.inl (0, (X, .inl g))]) (fun o h' a b => Ψ o h' (a + 1) (b + X))) : z_ok sx d j k lo (.int x :: .ref s :: rest) h Ψ := by
  refine z_ok.call J.1 J.2.1 J.2.2 hi (z_fin_no (show (55 : Nat) ≠ 50 ∧ (55 : Nat) ≠ 51 ∧ (55 : Nat) ≠ 52 ∧ (55 : Nat) ≠ 53 ∧ (55 : Nat) ≠ 62 by decide)) (zcal55 (xs := [.int x, .ref s]) (rest := rest) (by omega) rfl rfl hz (M' := z_m314) rfl (Nat.le_of_ble_eq_true rfl)) (z_ok.imp (zS_314 (d := d - 1) (by omega) he hn hx hX hB) (fun o h' a b q => ?_))
  obtain ⟨g, rfl, rfl, hg, rfl, rfl⟩ := q
  rw [← hk] at kk
  exact kk g hg
theorem zJ_41 : zJ3 41 z_m41 z_c41 z_h41 := ⟨rfl, rfl, rfl⟩
theorem zsx_at {h L : zH} {r : Nat} {o : zE} (hr : r < h.length) : (h.set r o ++ L)[r]? = some o := by
  rw [List.getElem?_append_left (by rw [List.length_set]; exact hr), List.getElem?_set_self hr]
theorem zsx_set {h L : zH} {r : Nat} {o o' : zE} (hr : r < h.length) : (h.set r o ++ L).set r o' = h.set r o' ++ L := by
  rw [List.set_append_left _ _ (by rw [List.length_set]; exact hr), List.set_set]
theorem zsx_ne {h L : zH} {r s : Nat} {o e : zE} (hs : r ≠ s) (he : h[s]? = some e) : (h.set r o ++ L)[s]? = some e := by
  refine zapp_lt ?_
  rw [List.getElem?_set_ne hs]
  exact he
theorem zsx_len {h L : zH} {r : Nat} {o : zE} : (h.set r o ++ L).length = h.length + L.length := by
  rw [List.length_append, List.length_set]
set_option maxRecDepth 100000 in
theorem zS_41 {sx : zX} {d r s2 s3 s4 s5 X : Nat} {h : zH} {f2 f3 f4 : Nat → Int32} {x : Int32} (hd : 8 ≤ d) (hr : r < h.length) (n2 : r ≠ s2) (n3 : r ≠ s3) (n4 : r ≠ s4) (e2 : h[s2]? = some (.inl (0, (12, .inl f2)))) (e3 : h[s3]? = some (.inl (0, (12, .inl f3)))) (e4 : h[s4]? = some (.inl (0, (12, .inl f4)))) (hx : x.toInt = (X : Int)) (hX : X ≤ 12) (hB : h.length + 4 ≤ zB) : z_ok sx d 41 0 (lv_args 0 [.ref r, .int x, .ref s2, .ref s3, .ref s4, .ref s5]) [] (h.set r (.inr (2, [.int 0, .null, .null, .null, .null, .null])) ++ []) (fun o h' a b => ∃ g1 g2 g3 : Nat → Int32, o = .inl none ∧ h' = (h.set r (.inr (2, [.int x, .ref (h.length + 1), .ref (h.length + 2), .ref (h.length + 3), .ref s5, .ref h.length])) ++ [.inl (0, (32, .inl (fun _ => 0))), .inl (0, (X, .inl g1)), .inl (0, (X, .inl g2)), .inl (0, (X, .inl g3))]) ∧ (∀ i, i < X → g1 i = f2 i) ∧ (∀ i, i < X → g2 i = f3 i) ∧ (∀ i, i < X → g3 i = f4 i) ∧ a = 4 ∧ b = 32 + 3 * X) := by
  show z_ok sx d 41 0 [(0, .ref r), (1, .int x), (2, .ref s2), (3, .ref s3), (4, .ref s4), (5, .ref s5)] [] (h.set r (.inr (2, [.int 0, .null, .null, .null, .null, .null])) ++ []) _
  refine zh zJ_41 (i := (2, 0, 0, 0)) rfl rfl (k' := 1) (lo' := [(0, .ref r), (1, .int x), (2, .ref s2), (3, .ref s3), (4, .ref s4), (5, .ref s5)]) (st' := [.ref r]) (h' := (h.set r (.inr (2, [.int 0, .null, .null, .null, .null, .null])) ++ [])) rfl ?_
  refine zh_oinit zJ_41 (a := 0) (b := 0) (z := 0) rfl (k' := 2) rfl (by omega) (Nat.zero_le _) ?_
  refine zh zJ_41 (i := (2, 0, 0, 0)) rfl rfl (k' := 3) (lo' := [(0, .ref r), (1, .int x), (2, .ref s2), (3, .ref s3), (4, .ref s4), (5, .ref s5)]) (st' := [.ref r]) (h' := (h.set r (.inr (2, [.int 0, .null, .null, .null, .null, .null])) ++ [])) rfl ?_
  refine zh zJ_41 (i := (0, 0, 0, 32)) rfl rfl (k' := 4) (lo' := [(0, .ref r), (1, .int x), (2, .ref s2), (3, .ref s3), (4, .ref s4), (5, .ref s5)]) (st' := [.int (Int32.ofInt (32)), .ref r]) (h' := (h.set r (.inr (2, [.int 0, .null, .null, .null, .null, .null])) ++ [])) rfl ?_
  refine zha zJ_41 (i := (47, 0, 0, 0)) rfl rfl (k' := 5) (lo' := [(0, .ref r), (1, .int x), (2, .ref s2), (3, .ref s3), (4, .ref s4), (5, .ref s5)]) (st' := [.ref h.length, .ref r]) (h' := (h.set r (.inr (2, [.int 0, .null, .null, .null, .null, .null])) ++ [.inl (0, (32, .inl (fun _ => 0)))])) (x := 1) (y := 32) (by
      show zo_newa sx d 0 0 0 4 _ [.int (Int32.ofInt (32)), .ref r] _ = _
      unfold zo_newa
      dsimp only
      rw [if_pos ⟨by decide, by decide, by rw [zsx_len]; simp only [List.length_nil]; omega, by omega⟩, zsx_len, List.append_nil]
      rfl) ?_
  refine zh_put zJ_41 (b := 5) (c := 2) (z := 2) rfl (k' := 6) rfl (zsx_at hr) (by simp only [List.length_cons, List.length_nil]; omega) rfl ?_
  rw [zsx_set hr]
  show z_ok sx d 41 6 [(0, .ref r), (1, .int x), (2, .ref s2), (3, .ref s3), (4, .ref s4), (5, .ref s5)] [] (h.set r (.inr (2, [.int 0, .null, .null, .null, .null, .ref h.length])) ++ [.inl (0, (32, .inl (fun _ => 0)))]) _
  refine zh zJ_41 (i := (2, 0, 0, 0)) rfl rfl (k' := 7) (lo' := [(0, .ref r), (1, .int x), (2, .ref s2), (3, .ref s3), (4, .ref s4), (5, .ref s5)]) (st' := [.ref r]) (h' := (h.set r (.inr (2, [.int 0, .null, .null, .null, .null, .ref h.length])) ++ [.inl (0, (32, .inl (fun _ => 0)))])) rfl ?_
  refine zh zJ_41 (i := (1, 1, 0, 0)) rfl rfl (k' := 8) (lo' := [(0, .ref r), (1, .int x), (2, .ref s2), (3, .ref s3), (4, .ref s4), (5, .ref s5)]) (st' := [.int x, .ref r]) (h' := (h.set r (.inr (2, [.int 0, .null, .null, .null, .null, .ref h.length])) ++ [.inl (0, (32, .inl (fun _ => 0)))])) rfl ?_
  refine zh_put zJ_41 (b := 0) (c := 2) (z := 0) rfl (k' := 9) rfl (zsx_at hr) (by simp only [List.length_cons, List.length_nil]; omega) rfl ?_
  rw [zsx_set hr]
  show z_ok sx d 41 9 [(0, .ref r), (1, .int x), (2, .ref s2), (3, .ref s3), (4, .ref s4), (5, .ref s5)] [] (h.set r (.inr (2, [.int x, .null, .null, .null, .null, .ref h.length])) ++ [.inl (0, (32, .inl (fun _ => 0)))]) _
  refine zh zJ_41 (i := (2, 0, 0, 0)) rfl rfl (k' := 10) (lo' := [(0, .ref r), (1, .int x), (2, .ref s2), (3, .ref s3), (4, .ref s4), (5, .ref s5)]) (st' := [.ref r]) (h' := (h.set r (.inr (2, [.int x, .null, .null, .null, .null, .ref h.length])) ++ [.inl (0, (32, .inl (fun _ => 0)))])) rfl ?_
  refine zh zJ_41 (i := (2, 2, 0, 0)) rfl rfl (k' := 11) (lo' := [(0, .ref r), (1, .int x), (2, .ref s2), (3, .ref s3), (4, .ref s4), (5, .ref s5)]) (st' := [.ref s2, .ref r]) (h' := (h.set r (.inr (2, [.int x, .null, .null, .null, .null, .ref h.length])) ++ [.inl (0, (32, .inl (fun _ => 0)))])) rfl ?_
  refine zh zJ_41 (i := (1, 1, 0, 0)) rfl rfl (k' := 12) (lo' := [(0, .ref r), (1, .int x), (2, .ref s2), (3, .ref s3), (4, .ref s4), (5, .ref s5)]) (st' := [.int x, .ref s2, .ref r]) (h' := (h.set r (.inr (2, [.int x, .null, .null, .null, .null, .ref h.length])) ++ [.inl (0, (32, .inl (fun _ => 0)))])) rfl ?_
  refine zh_copy zJ_41 (z := 0) rfl (k' := 13) rfl (by omega) (zsx_ne n2 e2) (by omega) hx (by omega) (by rw [zsx_len]; simp only [List.length_cons, List.length_nil]; omega) (Nat.le_of_ble_eq_true rfl) (fun g1 hg1 => ?_)
  rw [zsx_len, List.append_assoc]
  show z_ok sx d 41 13 [(0, .ref r), (1, .int x), (2, .ref s2), (3, .ref s3), (4, .ref s4), (5, .ref s5)] [.ref (h.length + 1), .ref r] (h.set r (.inr (2, [.int x, .null, .null, .null, .null, .ref h.length])) ++ [.inl (0, (32, .inl (fun _ => 0))), .inl (0, (X, .inl g1))]) _
  refine zh_put zJ_41 (b := 1) (c := 2) (z := 2) rfl (k' := 14) rfl (zsx_at hr) (by simp only [List.length_cons, List.length_nil]; omega) rfl ?_
  rw [zsx_set hr]
  show z_ok sx d 41 14 [(0, .ref r), (1, .int x), (2, .ref s2), (3, .ref s3), (4, .ref s4), (5, .ref s5)] [] (h.set r (.inr (2, [.int x, .ref (h.length + 1), .null, .null, .null, .ref h.length])) ++ [.inl (0, (32, .inl (fun _ => 0))), .inl (0, (X, .inl g1))]) _
  refine zh zJ_41 (i := (2, 0, 0, 0)) rfl rfl (k' := 15) (lo' := [(0, .ref r), (1, .int x), (2, .ref s2), (3, .ref s3), (4, .ref s4), (5, .ref s5)]) (st' := [.ref r]) (h' := (h.set r (.inr (2, [.int x, .ref (h.length + 1), .null, .null, .null, .ref h.length])) ++ [.inl (0, (32, .inl (fun _ => 0))), .inl (0, (X, .inl g1))])) rfl ?_
  refine zh zJ_41 (i := (2, 3, 0, 0)) rfl rfl (k' := 16) (lo' := [(0, .ref r), (1, .int x), (2, .ref s2), (3, .ref s3), (4, .ref s4), (5, .ref s5)]) (st' := [.ref s3, .ref r]) (h' := (h.set r (.inr (2, [.int x, .ref (h.length + 1), .null, .null, .null, .ref h.length])) ++ [.inl (0, (32, .inl (fun _ => 0))), .inl (0, (X, .inl g1))])) rfl ?_
  refine zh zJ_41 (i := (1, 1, 0, 0)) rfl rfl (k' := 17) (lo' := [(0, .ref r), (1, .int x), (2, .ref s2), (3, .ref s3), (4, .ref s4), (5, .ref s5)]) (st' := [.int x, .ref s3, .ref r]) (h' := (h.set r (.inr (2, [.int x, .ref (h.length + 1), .null, .null, .null, .ref h.length])) ++ [.inl (0, (32, .inl (fun _ => 0))), .inl (0, (X, .inl g1))])) rfl ?_
  refine zh_copy zJ_41 (z := 0) rfl (k' := 18) rfl (by omega) (zsx_ne n3 e3) (by omega) hx (by omega) (by rw [zsx_len]; simp only [List.length_cons, List.length_nil]; omega) (Nat.le_of_ble_eq_true rfl) (fun g2 hg2 => ?_)
  rw [zsx_len, List.append_assoc]
  show z_ok sx d 41 18 [(0, .ref r), (1, .int x), (2, .ref s2), (3, .ref s3), (4, .ref s4), (5, .ref s5)] [.ref (h.length + 2), .ref r] (h.set r (.inr (2, [.int x, .ref (h.length + 1), .null, .null, .null, .ref h.length])) ++ [.inl (0, (32, .inl (fun _ => 0))), .inl (0, (X, .inl g1)), .inl (0, (X, .inl g2))]) _
  refine zh_put zJ_41 (b := 2) (c := 2) (z := 2) rfl (k' := 19) rfl (zsx_at hr) (by simp only [List.length_cons, List.length_nil]; omega) rfl ?_
  rw [zsx_set hr]
  show z_ok sx d 41 19 [(0, .ref r), (1, .int x), (2, .ref s2), (3, .ref s3), (4, .ref s4), (5, .ref s5)] [] (h.set r (.inr (2, [.int x, .ref (h.length + 1), .ref (h.length + 2), .null, .null, .ref h.length])) ++ [.inl (0, (32, .inl (fun _ => 0))), .inl (0, (X, .inl g1)), .inl (0, (X, .inl g2))]) _
  refine zh zJ_41 (i := (2, 0, 0, 0)) rfl rfl (k' := 20) (lo' := [(0, .ref r), (1, .int x), (2, .ref s2), (3, .ref s3), (4, .ref s4), (5, .ref s5)]) (st' := [.ref r]) (h' := (h.set r (.inr (2, [.int x, .ref (h.length + 1), .ref (h.length + 2), .null, .null, .ref h.length])) ++ [.inl (0, (32, .inl (fun _ => 0))), .inl (0, (X, .inl g1)), .inl (0, (X, .inl g2))])) rfl ?_
  refine zh zJ_41 (i := (2, 4, 0, 0)) rfl rfl (k' := 21) (lo' := [(0, .ref r), (1, .int x), (2, .ref s2), (3, .ref s3), (4, .ref s4), (5, .ref s5)]) (st' := [.ref s4, .ref r]) (h' := (h.set r (.inr (2, [.int x, .ref (h.length + 1), .ref (h.length + 2), .null, .null, .ref h.length])) ++ [.inl (0, (32, .inl (fun _ => 0))), .inl (0, (X, .inl g1)), .inl (0, (X, .inl g2))])) rfl ?_
  refine zh zJ_41 (i := (1, 1, 0, 0)) rfl rfl (k' := 22) (lo' := [(0, .ref r), (1, .int x), (2, .ref s2), (3, .ref s3), (4, .ref s4), (5, .ref s5)]) (st' := [.int x, .ref s4, .ref r]) (h' := (h.set r (.inr (2, [.int x, .ref (h.length + 1), .ref (h.length + 2), .null, .null, .ref h.length])) ++ [.inl (0, (32, .inl (fun _ => 0))), .inl (0, (X, .inl g1)), .inl (0, (X, .inl g2))])) rfl ?_
  refine zh_copy zJ_41 (z := 0) rfl (k' := 23) rfl (by omega) (zsx_ne n4 e4) (by omega) hx (by omega) (by rw [zsx_len]; simp only [List.length_cons, List.length_nil]; omega) (Nat.le_of_ble_eq_true rfl) (fun g3 hg3 => ?_)
  rw [zsx_len, List.append_assoc]
  show z_ok sx d 41 23 [(0, .ref r), (1, .int x), (2, .ref s2), (3, .ref s3), (4, .ref s4), (5, .ref s5)] [.ref (h.length + 3), .ref r] (h.set r (.inr (2, [.int x, .ref (h.length + 1), .ref (h.length + 2), .null, .null, .ref h.length])) ++ [.inl (0, (32, .inl (fun _ => 0))), .inl (0, (X, .inl g1)), .inl (0, (X, .inl g2)), .inl (0, (X, .inl g3))]) _
  refine zh_put zJ_41 (b := 3) (c := 2) (z := 2) rfl (k' := 24) rfl (zsx_at hr) (by simp only [List.length_cons, List.length_nil]; omega) rfl ?_
  rw [zsx_set hr]
  show z_ok sx d 41 24 [(0, .ref r), (1, .int x), (2, .ref s2), (3, .ref s3), (4, .ref s4), (5, .ref s5)] [] (h.set r (.inr (2, [.int x, .ref (h.length + 1), .ref (h.length + 2), .ref (h.length + 3), .null, .ref h.length])) ++ [.inl (0, (32, .inl (fun _ => 0))), .inl (0, (X, .inl g1)), .inl (0, (X, .inl g2)), .inl (0, (X, .inl g3))]) _
  refine zh zJ_41 (i := (2, 0, 0, 0)) rfl rfl (k' := 25) (lo' := [(0, .ref r), (1, .int x), (2, .ref s2), (3, .ref s3), (4, .ref s4), (5, .ref s5)]) (st' := [.ref r]) (h' := (h.set r (.inr (2, [.int x, .ref (h.length + 1), .ref (h.length + 2), .ref (h.length + 3), .null, .ref h.length])) ++ [.inl (0, (32, .inl (fun _ => 0))), .inl (0, (X, .inl g1)), .inl (0, (X, .inl g2)), .inl (0, (X, .inl g3))])) rfl ?_
  refine zh zJ_41 (i := (2, 5, 0, 0)) rfl rfl (k' := 26) (lo' := [(0, .ref r), (1, .int x), (2, .ref s2), (3, .ref s3), (4, .ref s4), (5, .ref s5)]) (st' := [.ref s5, .ref r]) (h' := (h.set r (.inr (2, [.int x, .ref (h.length + 1), .ref (h.length + 2), .ref (h.length + 3), .null, .ref h.length])) ++ [.inl (0, (32, .inl (fun _ => 0))), .inl (0, (X, .inl g1)), .inl (0, (X, .inl g2)), .inl (0, (X, .inl g3))])) rfl ?_
  refine zh_put zJ_41 (b := 4) (c := 2) (z := 2) rfl (k' := 27) rfl (zsx_at hr) (by simp only [List.length_cons, List.length_nil]; omega) rfl ?_
  rw [zsx_set hr]
  show z_ok sx d 41 27 [(0, .ref r), (1, .int x), (2, .ref s2), (3, .ref s3), (4, .ref s4), (5, .ref s5)] [] (h.set r (.inr (2, [.int x, .ref (h.length + 1), .ref (h.length + 2), .ref (h.length + 3), .ref s5, .ref h.length])) ++ [.inl (0, (32, .inl (fun _ => 0))), .inl (0, (X, .inl g1)), .inl (0, (X, .inl g2)), .inl (0, (X, .inl g3))]) _
  refine zh_vret zJ_41 (a := 0) (b := 0) (z := 0) rfl ?_
  exact ⟨g1, g2, g3, rfl, rfl, hg1, hg2, hg3, by omega, by omega⟩
theorem zJ_48 : zJ3 48 z_m48 z_c48 z_h48 := ⟨rfl, rfl, rfl⟩
theorem zTY.app {tt : Nat → zTy} {ty : List Nat} {h : zH} (T : zTY tt ty h) {ts : List Nat} {es : zH} (hl : ts.length = es.length) (hb : (h ++ es).length ≤ zB) (hn : ∀ (i t : Nat) (e : zE), ts[i]? = some t → es[i]? = some e → z_sh (tt t) e ∧ ∀ (j : Nat) (v : Value), z_rd e j = some v → ∀ r ∈ (tt t).2.2.2, r.1 ≤ (j : Int) → (j : Int) ≤ r.2.1 → zG (ty ++ ts) r.2.2 v) : zTY tt (ty ++ ts) (h ++ es) := by
  refine ⟨by rw [List.length_append, List.length_append, T.1, hl], hb, fun a t e ht he => ?_⟩
  by_cases ha : a < h.length
  · rw [List.getElem?_append_left (by rw [T.1]; exact ha)] at ht
    rw [List.getElem?_append_left ha] at he
    obtain ⟨s, v⟩ := T.2.2 a t e ht he
    refine ⟨s, fun j w hw r hr r1 r2 => zG_ext (fun i t hi => ?_) (v j w hw r hr r1 r2)⟩
    rw [List.getElem?_append_left (List.getElem?_eq_some_iff.mp hi).1]
    exact hi
  · rw [List.getElem?_append_right (by rw [T.1]; omega), T.1] at ht
    rw [List.getElem?_append_right (by omega)] at he
    exact hn (a - h.length) t e ht he
theorem zExt.app {ty ts : List Nat} : zExt ty (ty ++ ts) := fun i t hi => by
  rw [List.getElem?_append_left (List.getElem?_eq_some_iff.mp hi).1]
  exact hi
theorem zFm.app {ms : List zMod} {ty : List Nat} {h es : zH} : zFm ms ty h (h ++ es) := ⟨by rw [List.length_append]; omega, fun a t e e' ht he he' i _ => by
  rw [zapp_lt he] at he'
  cases he'
  rfl⟩
theorem zE1.app {ty ts : List Nat} {h es : zH} (T : zTY z_tt ty h) (E : zE1 ty h) (hn : ∀ t ∈ ts, ¬ (20 ≤ t ∧ t ≤ 32)) : zE1 (ty ++ ts) (h ++ es) := by
  have key : ∀ a t : Nat, 20 ≤ t → t ≤ 32 → (ty ++ ts)[a]? = some t → ty[a]? = some t := fun a t h1 h2 ht => by
    by_cases ha : a < ty.length
    · rw [List.getElem?_append_left ha] at ht
      exact ht
    · rw [List.getElem?_append_right (by omega)] at ht
      exact absurd ⟨h1, h2⟩ (hn t (List.mem_of_getElem? ht))
  refine ⟨fun a b t h1 h2 ha hb => E.1 a b t h1 h2 (key a t h1 h2 ha) (key b t h1 h2 hb), fun a t n f ht hz he => ?_⟩
  have h9 : 20 ≤ t ∧ t ≤ 32 := by rcases hz with rfl | rfl | rfl <;> omega
  have ha := key a t h9.1 h9.2 ht
  have hl : a < h.length := by rw [← T.1]; exact (List.getElem?_eq_some_iff.mp ha).1
  rw [List.getElem?_append_left hl] at he
  exact E.2 a t n f ha hz he
theorem ztt_l {L : Nat} (h : L ≤ 12) : z_tt (100 + L) = (0, 2, 6, [(0, 0, (0, (L : Int), (L : Int))), (1, 2, (2, ((140 + L : Nat) : Int), ((140 + L : Nat) : Int))), (3, 3, (2, ((120 + L : Nat) : Int), ((120 + L : Nat) : Int))), (4, 4, (2, 1000, 1400)), (5, 5, (2, 34, 34))]) := by
  unfold z_tt
  rw [if_neg (by omega), if_pos (by omega), show 100 + L - 100 = L by omega, show 100 + L + 40 = 140 + L by omega, show 100 + L + 20 = 120 + L by omega]
theorem ztt_e {L : Nat} (h : L ≤ 12) : z_tt (120 + L) = (1, 0, L, [(0, ((120 + L : Nat) : Int) - 121, (0, 0, 400))]) := by
  unfold z_tt
  rw [if_neg (by omega), if_neg (by omega), if_pos (by omega), show 120 + L - 120 = L by omega]
theorem ztt_k {L : Nat} (h : L ≤ 12) : z_tt (140 + L) = (1, 0, L, [(0, ((140 + L : Nat) : Int) - 141, zFull)]) := by
  unfold z_tt
  rw [if_neg (by omega), if_neg (by omega), if_neg (by omega), if_pos (by omega), show 140 + L - 140 = L by omega]
theorem ztt_c {C : Nat} (h : C ≤ 400) : z_tt (1000 + C) = (1, 0, C, [(0, ((1000 + C : Nat) : Int) - 1001, zFull)]) := by
  unfold z_tt
  rw [if_neg (by omega), if_neg (by omega), if_neg (by omega), if_neg (by omega), if_pos (by omega), show 1000 + C - 1000 = C by omega]
/-- an array of any ints -/
theorem znew_full {ty : List Nat} {n : Nat} {lo hi : Int} {g : Nat → Int32} (T : zTy) (hT : T = (1, 0, n, [(lo, hi, zFull)])) : z_sh T (.inl (0, (n, .inl g))) ∧ ∀ (j : Nat) (v : Value), z_rd (.inl (0, (n, .inl g))) j = some v → ∀ r ∈ T.2.2.2, r.1 ≤ (j : Int) → (j : Int) ≤ r.2.1 → zG ty r.2.2 v := by
  subst hT
  refine ⟨rfl, fun j v hv r hr _ _ => ?_⟩
  rw [List.mem_singleton.mp hr]
  rw [z_rd0] at hv
  split at hv
  · cases hv; exact zFull_ok _
  · cases hv
set_option maxRecDepth 100000 in
theorem zS_48 {sx : zX} {d r : Nat} {ty : List Nat} {h : zH} (hd : 9 ≤ d) (T : zTY z_tt ty h) (E : zE1 ty h) (hr : ty[r]? = some 4) (hB : h.length + 6 ≤ zB) : z_ok sx d 48 0 (lv_args 0 [.ref r]) [] h (fun o h' a b => ∃ (ty' : List Nat) (L : Nat), o = .inl (some (.ref h.length)) ∧ zExt ty ty' ∧ zTY z_tt ty' h' ∧ zE1 ty' h' ∧ zFm [] ty h h' ∧ a ≤ 6 ∧ b ≤ 900 ∧ ty'[h.length]? = some (100 + L) ∧ L ≤ 12) := by
  show z_ok sx d 48 0 [(0, .ref r)] [] h _
  obtain ⟨fs, he, hl⟩ := zcell0 (c := 3) (n := 6) T hr rfl rfl rfl
  obtain ⟨s0, f0, t0⟩ := zfd2 (b := 0) (u := 5) T hr he (by omega) (by decide +kernel)
  obtain ⟨s1, f1, t1⟩ := zfd2 (b := 1) (u := 5) T hr he (by omega) (by decide +kernel)
  obtain ⟨s2, f2, t2⟩ := zfd2 (b := 2) (u := 6) T hr he (by omega) (by decide +kernel)
  obtain ⟨s3, f3, t3⟩ := zfd2 (b := 3) (u := 7) T hr he (by omega) (by decide +kernel)
  obtain ⟨x4, f4, l4, u4⟩ := zfd0 (b := 4) (lo := 0) (hi := 12) T hr he (by omega) (by decide +kernel)
  obtain ⟨x5, f5, l5, u5⟩ := zfd0 (b := 5) (lo := 0) (hi := 400) T hr he (by omega) (by decide +kernel)
  obtain ⟨a0, c0⟩ := zcell1 (n := 12) T t0 rfl rfl
  obtain ⟨a1, c1⟩ := zcell1 (n := 12) T t1 rfl rfl
  obtain ⟨a2, c2⟩ := zcell1 (n := 12) T t2 rfl rfl
  obtain ⟨a3, c3⟩ := zcell1 (n := 400) T t3 rfl rfl
  obtain ⟨L, eL⟩ : ∃ L : Nat, x4.toInt = (L : Int) := ⟨x4.toInt.toNat, by omega⟩
  obtain ⟨C, eC⟩ : ∃ C : Nat, x5.toInt = (C : Int) := ⟨x5.toInt.toNat, by omega⟩
  refine zha zJ_48 (i := (49, 2, 0, 0)) rfl rfl (k' := 1) (lo' := [(0, .ref r)]) (st' := [.ref h.length]) (h' := (h ++ [.inr (2, [.int 0, .null, .null, .null, .null, .null])])) (x := 1) (y := 6) (by
      show zo_new sx d 2 0 0 0 _ [] h = _
      unfold zo_new
      rw [if_pos (by omega)]
      rfl) ?_
  refine zh zJ_48 (i := (27, 0, 0, 0)) rfl rfl (k' := 2) (lo' := [(0, .ref r)]) (st' := [.ref h.length, .ref h.length]) (h' := (h ++ [.inr (2, [.int 0, .null, .null, .null, .null, .null])])) rfl ?_
  refine zh zJ_48 (i := (2, 0, 0, 0)) rfl rfl (k' := 3) (lo' := [(0, .ref r)]) (st' := [.ref r, .ref h.length, .ref h.length]) (h' := (h ++ [.inr (2, [.int 0, .null, .null, .null, .null, .null])])) rfl ?_
  refine zh_get zJ_48 (b := 4) (c := 3) (z := 0) rfl (k' := 4) rfl (zapp_lt he) f4 ?_
  refine zh zJ_48 (i := (2, 0, 0, 0)) rfl rfl (k' := 5) (lo' := [(0, .ref r)]) (st' := [.ref r, .int x4, .ref h.length, .ref h.length]) (h' := (h ++ [.inr (2, [.int 0, .null, .null, .null, .null, .null])])) rfl ?_
  refine zh_get zJ_48 (b := 0) (c := 3) (z := 0) rfl (k' := 6) rfl (zapp_lt he) f0 ?_
  refine zh zJ_48 (i := (2, 0, 0, 0)) rfl rfl (k' := 7) (lo' := [(0, .ref r)]) (st' := [.ref r, .ref s0, .int x4, .ref h.length, .ref h.length]) (h' := (h ++ [.inr (2, [.int 0, .null, .null, .null, .null, .null])])) rfl ?_
  refine zh_get zJ_48 (b := 1) (c := 3) (z := 0) rfl (k' := 8) rfl (zapp_lt he) f1 ?_
  refine zh zJ_48 (i := (2, 0, 0, 0)) rfl rfl (k' := 9) (lo' := [(0, .ref r)]) (st' := [.ref r, .ref s1, .ref s0, .int x4, .ref h.length, .ref h.length]) (h' := (h ++ [.inr (2, [.int 0, .null, .null, .null, .null, .null])])) rfl ?_
  refine zh_get zJ_48 (b := 2) (c := 3) (z := 0) rfl (k' := 10) rfl (zapp_lt he) f2 ?_
  refine zh zJ_48 (i := (2, 0, 0, 0)) rfl rfl (k' := 11) (lo' := [(0, .ref r)]) (st' := [.ref r, .ref s2, .ref s1, .ref s0, .int x4, .ref h.length, .ref h.length]) (h' := (h ++ [.inr (2, [.int 0, .null, .null, .null, .null, .null])])) rfl ?_
  refine zh_get zJ_48 (b := 3) (c := 3) (z := 0) rfl (k' := 12) rfl (zapp_lt he) f3 ?_
  refine zh zJ_48 (i := (2, 0, 0, 0)) rfl rfl (k' := 13) (lo' := [(0, .ref r)]) (st' := [.ref r, .ref s3, .ref s2, .ref s1, .ref s0, .int x4, .ref h.length, .ref h.length]) (h' := (h ++ [.inr (2, [.int 0, .null, .null, .null, .null, .null])])) rfl ?_
  refine zh_get zJ_48 (b := 5) (c := 3) (z := 0) rfl (k' := 14) rfl (zapp_lt he) f5 ?_
  refine zh_copy zJ_48 (z := 0) rfl (k' := 15) rfl (by omega) (zapp_lt c3) (by omega) eC (by omega) (by rw [List.length_append, List.length_singleton]; omega) (Nat.le_of_ble_eq_true rfl) (fun gc hgc => ?_)
  rw [List.length_append, List.length_singleton, List.append_assoc]
  show z_ok sx d 48 15 [(0, .ref r)] [.ref (h.length + 1), .ref s2, .ref s1, .ref s0, .int x4, .ref h.length, .ref h.length] (h ++ [.inr (2, [.int 0, .null, .null, .null, .null, .null]), .inl (0, (C, .inl gc))]) _
  generalize hX : h ++ ([.inr (2, [.int 0, .null, .null, .null, .null, .null]), .inl (0, (C, .inl gc))] : zH) = hc
  have lc : hc.length = h.length + 2 := by rw [← hX, List.length_append]; rfl
  have hcr : hc.set h.length (.inr (2, [.int 0, .null, .null, .null, .null, .null])) ++ [] = hc := by
    rw [List.append_nil, ← hX, List.set_append_right _ _ (Nat.le_refl _), Nat.sub_self]
    rfl
  have k0 : hc[s0]? = some (.inl (0, (12, .inl a0))) := by rw [← hX]; exact zapp_lt c0
  have k1 : hc[s1]? = some (.inl (0, (12, .inl a1))) := by rw [← hX]; exact zapp_lt c1
  have k2 : hc[s2]? = some (.inl (0, (12, .inl a2))) := by rw [← hX]; exact zapp_lt c2
  have m0 := (List.getElem?_eq_some_iff.mp c0).1
  have m1 := (List.getElem?_eq_some_iff.mp c1).1
  have m2 := (List.getElem?_eq_some_iff.mp c2).1
  have R := zS_41 (sx := sx) (d := d - 1) (h := hc) (r := h.length) (s5 := h.length + 1) (x := x4) (X := L) (by omega) (by omega) (by omega) (by omega) (by omega) k0 k1 k2 eL (by omega) (by omega)
  rw [hcr] at R
  refine z_ok.call zJ_48.1 zJ_48.2.1 zJ_48.2.2 (i := (56, 41, 5, 0)) rfl (z_fin_no (by decide)) (zcal56 (xs := [.ref (h.length + 1), .ref s2, .ref s1, .ref s0, .int x4]) (rest := [.ref h.length]) (by omega) rfl rfl (Nat.le_of_ble_eq_true rfl) (M' := z_m41) rfl (Nat.le_of_ble_eq_true rfl)) (z_ok.imp R (fun o h' a b q => ?_))
  obtain ⟨g1, g2, g3, rfl, rfl, q1, q2, q3, rfl, rfl⟩ := q
  have ef : hc.set h.length (.inr (2, [.int x4, .ref (hc.length + 1), .ref (hc.length + 2), .ref (hc.length + 3), .ref (h.length + 1), .ref hc.length])) ++ [.inl (0, (32, .inl (fun _ => 0))), .inl (0, (L, .inl g1)), .inl (0, (L, .inl g2)), .inl (0, (L, .inl g3))] = h ++ [.inr (2, [.int x4, .ref (h.length + 3), .ref (h.length + 4), .ref (h.length + 5), .ref (h.length + 1), .ref (h.length + 2)]), .inl (0, (C, .inl gc)), .inl (0, (32, .inl (fun _ => 0))), .inl (0, (L, .inl g1)), .inl (0, (L, .inl g2)), .inl (0, (L, .inl g3))] := by
    rw [lc, ← hX, List.set_append_right _ _ (Nat.le_refl _), Nat.sub_self, List.append_assoc]
    rfl
  rw [ef]
  show z_ok sx d 48 16 [(0, .ref r)] [.ref h.length] (h ++ [.inr (2, [.int x4, .ref (h.length + 3), .ref (h.length + 4), .ref (h.length + 5), .ref (h.length + 1), .ref (h.length + 2)]), .inl (0, (C, .inl gc)), .inl (0, (32, .inl (fun _ => 0))), .inl (0, (L, .inl g1)), .inl (0, (L, .inl g2)), .inl (0, (L, .inl g3))]) _
  refine zh_aret zJ_48 (a := 0) (b := 0) (z := 0) rfl ?_
  have tn : ∀ (i t : Nat), ([100 + L, 1000 + C, 34, 140 + L, 140 + L, 120 + L] : List Nat)[i]? = some t → (ty ++ [100 + L, 1000 + C, 34, 140 + L, 140 + L, 120 + L])[h.length + i]? = some t := fun i t hi => by
    rw [List.getElem?_append_right (by rw [T.1]; omega), T.1, show h.length + i - h.length = i by omega]
    exact hi
  have TT : zTY z_tt (ty ++ [100 + L, 1000 + C, 34, 140 + L, 140 + L, 120 + L]) (h ++ [.inr (2, [.int x4, .ref (h.length + 3), .ref (h.length + 4), .ref (h.length + 5), .ref (h.length + 1), .ref (h.length + 2)]), .inl (0, (C, .inl gc)), .inl (0, (32, .inl (fun _ => 0))), .inl (0, (L, .inl g1)), .inl (0, (L, .inl g2)), .inl (0, (L, .inl g3))]) := by
    refine T.app rfl (by rw [List.length_append]; show h.length + 6 ≤ zB; omega) (fun i t e hi he9 => ?_)
    match i, hi, he9 with
    | 0, hi, he9 =>
      cases hi
      cases he9
      rw [ztt_l (by omega)]
      refine ⟨⟨rfl, rfl⟩, fun j v hv rg hr9 r1 r2 => ?_⟩
      have hv : ([.int x4, .ref (h.length + 3), .ref (h.length + 4), .ref (h.length + 5), .ref (h.length + 1), .ref (h.length + 2)] : List Value)[j]? = some v := hv
      rcases List.mem_cons.mp hr9 with rfl | hr9
      · have ej : j = 0 := by have r2 : (j : Int) ≤ 0 := r2; omega
        subst ej
        cases hv
        exact ⟨x4, rfl, by show (L : Int) ≤ _; omega, by show _ ≤ (L : Int); omega⟩
      rcases List.mem_cons.mp hr9 with rfl | hr9
      · have ej : j = 1 ∨ j = 2 := by have r1 : (1 : Int) ≤ j := r1; have r2 : (j : Int) ≤ 2 := r2; omega
        rcases ej with rfl | rfl
        · cases hv
          exact ⟨_, 140 + L, rfl, tn 3 _ rfl, Int.le_refl _, Int.le_refl _⟩
        · cases hv
          exact ⟨_, 140 + L, rfl, tn 4 _ rfl, Int.le_refl _, Int.le_refl _⟩
      rcases List.mem_cons.mp hr9 with rfl | hr9
      · have ej : j = 3 := by have r1 : (3 : Int) ≤ j := r1; have r2 : (j : Int) ≤ 3 := r2; omega
        subst ej
        cases hv
        exact ⟨_, 120 + L, rfl, tn 5 _ rfl, Int.le_refl _, Int.le_refl _⟩
      rcases List.mem_cons.mp hr9 with rfl | hr9
      · have ej : j = 4 := by have r1 : (4 : Int) ≤ j := r1; have r2 : (j : Int) ≤ 4 := r2; omega
        subst ej
        cases hv
        exact ⟨_, 1000 + C, rfl, tn 1 _ rfl, by show (1000 : Int) ≤ _; omega, by show _ ≤ (1400 : Int); omega⟩
      · rw [List.mem_singleton.mp hr9] at r1 r2 ⊢
        have ej : j = 5 := by have r1 : (5 : Int) ≤ j := r1; have r2 : (j : Int) ≤ 5 := r2; omega
        subst ej
        cases hv
        exact ⟨_, 34, rfl, tn 2 _ rfl, Int.le_refl _, Int.le_refl _⟩
    | 1, hi, he9 => cases hi; cases he9; exact znew_full _ (ztt_c (by omega))
    | 2, hi, he9 => cases hi; cases he9; exact znew_full _ rfl
    | 3, hi, he9 => cases hi; cases he9; exact znew_full _ (ztt_k (by omega))
    | 4, hi, he9 => cases hi; cases he9; exact znew_full _ (ztt_k (by omega))
    | 5, hi, he9 =>
      cases hi
      cases he9
      rw [ztt_e (by omega)]
      refine ⟨rfl, fun j v hv rg hr9 r1 r2 => ?_⟩
      rw [List.mem_singleton.mp hr9]
      rw [z_rd0] at hv
      split at hv
      · next hj =>
        cases hv
        rw [q3 j hj]
        have := zel (lo := 0) (hi := 11) (A := (0, 0, 400)) T t2 c2 (i := j) (by omega) (by decide +kernel) (by omega) (by omega)
        obtain ⟨y, e, y1, y2⟩ := this
        exact ⟨y, e, y1, y2⟩
      · cases hv
    | n + 6, hi, he9 => cases hi
  exact ⟨_, L, rfl, zExt.app, TT, E.app T (by intro t ht; simp only [List.mem_cons, List.not_mem_nil, or_false] at ht; omega), zFm.app, by omega, by omega, tn 0 _ rfl, by omega⟩
end
section
/-! deed, law, who: the tapes are empty behind them; printed with wip/gen/gen_tape.py -/
theorem zok_gx {sx : zX} {d j k : Nat} {lo : zL} {h : zH} {Φ : zO → zH → Nat → Nat → Prop} (H : z_ok sx d j k lo [] h Φ) : zGo sx d Φ [(j, k, lo, [])] h 0 0 := H
/-- the class's tape is emptied -/
theorem zemp {sx : zX} {d j k k1 k2 k3 k4 : Nat} {lo : zL} {h : zH} {Φ : zO → zH → Nat → Nat → Prop} {M : zMi} {cs : List zI} {hs : List zHd} {ty : List Nat} {ax : Nat} (J : zJ3 j M cs hs) (i0 : cs[k]? = some (2, 0, 0, 0)) (e1 : k + 1 = k1) (i1 : cs[k1]? = some (37, 8, 0, 0)) (e2 : k1 + 1 = k2) (i2 : cs[k2]? = some (0, 0, 0, 0)) (e3 : k2 + 1 = k3) (i3 : cs[k3]? = some (38, 6, 1, 0)) (e4 : k3 + 1 = k4) (g0 : z_get lo 0 = some (.ref ax)) (ha : ty[ax]? = some 1) (T : zTY z_tt ty h) (E : zE1 ty h) (kk : ∀ h', zTY z_tt ty h' → zE1 ty h' → zFm [(2, 1, 1)] ty h h' → zTp ty h' ax 0 → z_ok sx d j k4 lo [] h' Φ) : z_ok sx d j k lo [] h Φ := by
  obtain ⟨fs, he, hl⟩ := zcell0 (c := 8) (n := 8) T ha rfl rfl rfl
  obtain ⟨t, f0, ht⟩ := zfd2 (b := 0) (u := 2) T ha he (by omega) (by decide +kernel)
  obtain ⟨ts, het, hlt⟩ := zcell0 (c := 6) (n := 4) T ht rfl rfl rfl
  refine zh_ald J i0 e1 g0 ?_
  refine zh_get J i1 e2 he f0 ?_
  refine zh J i2 rfl (k' := k3) (lo' := lo) (st' := [.int (Int32.ofInt (0)), .ref t]) (h' := h) (by rw [← e3]; rfl) ?_
  refine zputT J i3 e4 T E ht het (by omega) (zK0 (n := 0) (by decide) (by decide)) (by decide +kernel) [(2, 1, 1)] (by decide +kernel) (by decide +kernel) rfl (fun h1 T1 E1 F1 he1 hq1 => ?_)
  have hn : ax ≠ t := fun e => by rw [e, ht] at ha; cases ha
  exact kk h1 T1 E1 F1 ⟨_, _, t, _, (hq1 ax hn).trans he, f0, ht, he1, List.getElem?_set_self (by omega), rfl⟩
noncomputable def zEd (ty : List Nat) (h : zH) (ax : Nat) (ms : List zMod) (kx ky : Nat) (es : List Nat) : zO → zH → Nat → Nat → Prop := fun o h' x y => ∃ ty', zExt ty ty' ∧ zTY z_tt ty' h' ∧ zE1 ty' h' ∧ zFm ms ty h h' ∧ zTp ty' h' ax 0 ∧ (match o with
  | .inl v => (∃ c : Int32, v = some (.int c)) ∧ x ≤ kx ∧ y ≤ ky
  | .inr E => E ∈ es ∧ x ≤ 1 ∧ y ≤ 6)
/-- what a contract's end gives, where the tape is empty already -/
theorem zEd_of {ct : zCt} {A : Int × Int} {ty ty1 : List Nat} {h h1 : zH} {ax kx ky : Nat} {ms : List zMod} {es : List Nat} (hR : zcR ct = [(0, A.1, A.2)]) (hE : ∀ e ∈ zcE ct, e ∈ es) (hK : (zcK ct).1 ≤ kx ∧ (zcK ct).2.1 ≤ ky ∧ (zcK ct).2.2.1 ≤ 1 ∧ (zcK ct).2.2.2 ≤ 6) (hM : zWide (zcM ct) ms = true) (h10 : ¬ zIn (zcM ct) 1 0) (h21 : ¬ zIn (zcM ct) 2 1) (ha : ty1[ax]? = some 1) (X : zExt ty ty1) (F : zFm ms ty h h1) (P : zTp ty1 h1 ax 0) : ∀ o h' x y, zPo z_tt zE1 ct ty1 h1 o h' x y → zEd ty h ax ms kx ky es o h' x y := by
  rintro o h' x y ⟨ty', X', T', E', F', q⟩
  refine ⟨ty', X.tr X', T', E', F.tr X (F'.wide hM), P.keep ha T' X' F' h10 h21, ?_⟩
  cases o with
  | inl v =>
    obtain ⟨q1, q2, q3⟩ := q
    rw [hR] at q1
    cases v with
    | none => exact q1.elim
    | some v =>
      obtain ⟨c, rfl, -⟩ := q1
      exact ⟨⟨c, rfl⟩, by omega, by omega⟩
  | inr e => exact ⟨hE e q.1, by omega, by omega⟩
theorem zJ_120 : zJ3 120 z_m120 z_c120 z_h120 := ⟨rfl, rfl, rfl⟩
noncomputable def zC_d1 : zCt := (120, [(2, 1, 1)], [(0, 1, 0)], [], [(1, 7, 7), (2, 1, 3), (8, 5, 17), (9, 4, 4), (10, 0, 5), (11, 2, 3), (12, 0, 7), (13, 1, 2), (14, 0, 299), (16, 0, 23), (17, 2, 2)], 12, (0, 0, 0, 0), [])
noncomputable def zC_d2 : zCt := (120, [(2, 1, 1)], [zFull], [0, 1], [(8, 5, 17), (9, 4, 4), (10, 0, 5), (11, 2, 3), (12, 0, 7), (13, 1, 2), (14, 0, 299), (16, 0, 23), (17, 2, 2)], 12, (0, 0, 1, 6), [])
noncomputable def zD0 : zCut := (0, [(0, (2, 1, 1))], [], [])
noncomputable def zD16 : zCut := (16, [(0, (2, 1, 1))], [], [])
noncomputable def zDg : zTk := ((12, [], [], []), [0])
theorem zK_d1 : zxs z_tt zCtl zCand 72 zC_d1 (zstop4 [zDg]) (zht4 z_tt zC_d1 zD0 [zDg]) 4000 (zc_st zC_d1 zD0) = true := by decide +kernel
theorem zK_d2 : zxs z_tt zCtl zCand 72 zC_d2 (zstop4 []) (zht4 z_tt zC_d2 zD16 []) 4000 (zc_st zC_d2 zD16) = true := by decide +kernel
set_option maxRecDepth 100000 in
theorem zS_120 {sx : zX} {d : Nat} {ty : List Nat} {h : zH} {ax : Nat} (H : ∀ c, c < 72 → ∀ c', zCtl[c]? = some c' → zVd z_tt zE1 c') (hd : 12 ≤ d) (T : zTY z_tt ty h) (E : zE1 ty h) (ha : ty[ax]? = some 1) : z_ok sx d 120 0 (lv_args 0 [.ref ax]) [] h (zEd ty h ax [(1, 7, 7), (2, 1, 3), (8, 5, 17), (9, 4, 4), (10, 0, 5), (11, 2, 3), (12, 0, 7), (13, 1, 2), (14, 0, 299), (16, 0, 23), (17, 2, 2)] 0 0 [0, 1]) := by
  show z_ok sx d 120 0 [(0, .ref ax)] [] h _
  refine zok_go ?_
  refine zseg4 (ct := zC_d1) (c0 := zD0) (gs := [zDg]) (d0 := d) (ty0 := ty) (h0 := h) (vl := [.ref ax]) (vm := []) (zE1_stable (by decide +kernel)) hd H (zPo_no rfl rfl _) zK_d1 zExt.rf T E zFm.rf ⟨rfl, ⟨ax, 1, rfl, ha, Int.le_refl _, Int.le_refl _⟩, trivial⟩ trivial (fun g hg ty1 lo1 h1 vl' vm' X1 T1 E1 F1 V W R K => ?_)
  rw [List.mem_singleton.mp hg] at K ⊢
  have g0 := (K 0 (by decide)).trans (show z_get _ 0 = some (.ref ax) from rfl)
  have ha1 := X1 ax 1 ha
  refine zok_gx ?_
  refine zemp (k4 := 16) zJ_120 rfl rfl rfl rfl rfl rfl rfl rfl g0 ha1 T1 E1 (fun h2 T2 E2 F2 P2 => ?_)
  refine zok_go ?_
  exact zseg4 (ct := zC_d2) (c0 := zD16) (gs := []) (d0 := d) (ty0 := ty1) (h0 := h2) (vl := [.ref ax]) (vm := []) (zE1_stable (by decide +kernel)) hd H (zEd_of (A := (-2147483648, 2147483647)) rfl (by decide) (by decide) (by decide +kernel) (zNin _ _ _ (by decide +kernel)) (zNin _ _ _ (by decide +kernel)) ha1 X1 (F1.tr X1 (F2.wide (by decide +kernel))) P2) zK_d2 zExt.rf T2 E2 zFm.rf ⟨g0, ⟨ax, 1, rfl, ha1, Int.le_refl _, Int.le_refl _⟩, trivial⟩ trivial (fun g hg => absurd hg List.not_mem_nil)
theorem zJ_146 : zJ3 146 z_m146 z_c146 z_h146 := ⟨rfl, rfl, rfl⟩
noncomputable def zC_w1 : zCt := (146, [(2, 1, 1), (0, 0, 1)], [(0, 1, 0)], [], [(2, 1, 1)], 6, (0, 0, 0, 0), [])
noncomputable def zC_w2 : zCt := (146, [(2, 1, 1), (0, 0, 1)], [zFull], [0], [], 6, (0, 0, 1, 6), [])
noncomputable def zW0 : zCut := (0, [(0, (2, 1, 1)), (1, (0, 0, 1))], [], [])
noncomputable def zW19 : zCut := (19, [(0, (2, 1, 1)), (2, (0, 0, 1)), (3, zFull)], [], [])
noncomputable def zWg : zTk := ((15, [(2, (0, 0, 1)), (3, zFull)], [], []), [0])
theorem zK_w1 : zxs z_tt zCtl zCand 151 zC_w1 (zstop4 [zWg]) (zht4 z_tt zC_w1 zW0 [zWg]) 4000 (zc_st zC_w1 zW0) = true := by decide +kernel
theorem zK_w2 : zxs z_tt zCtl zCand 151 zC_w2 (zstop4 []) (zht4 z_tt zC_w2 zW19 []) 4000 (zc_st zC_w2 zW19) = true := by decide +kernel
set_option maxRecDepth 100000 in
theorem zS_146 {sx : zX} {d : Nat} {ty : List Nat} {h : zH} {ax : Nat} {v : Int32} (H : ∀ c, c < 151 → ∀ c', zCtl[c]? = some c' → zVd z_tt zE1 c') (hd : 6 ≤ d) (T : zTY z_tt ty h) (E : zE1 ty h) (ha : ty[ax]? = some 1) (hv : 0 ≤ v.toInt ∧ v.toInt ≤ 1) : z_ok sx d 146 0 (lv_args 0 [.ref ax, .int v]) [] h (zEd ty h ax [(2, 1, 1)] 0 0 [0]) := by
  show z_ok sx d 146 0 [(0, .ref ax), (1, .int v)] [] h _
  refine zok_go ?_
  refine zseg4 (ct := zC_w1) (c0 := zW0) (gs := [zWg]) (d0 := d) (ty0 := ty) (h0 := h) (vl := [.ref ax, .int v]) (vm := []) (zE1_stable (by decide +kernel)) hd H (zPo_no rfl rfl _) zK_w1 zExt.rf T E zFm.rf ⟨rfl, ⟨ax, 1, rfl, ha, Int.le_refl _, Int.le_refl _⟩, rfl, ⟨v, rfl, hv.1, hv.2⟩, trivial⟩ trivial (fun g hg ty1 lo1 h1 vl' vm' X1 T1 E1 F1 V W R K => ?_)
  rw [List.mem_singleton.mp hg] at V K ⊢
  match vl', V with
  | [u2, u3], V =>
  obtain ⟨k2, G2, k3, G3, -⟩ := V
  have g0 := (K 0 (by decide)).trans (show z_get _ 0 = some (.ref ax) from rfl)
  have ha1 := X1 ax 1 ha
  refine zok_gx ?_
  refine zemp (k4 := 19) zJ_146 rfl rfl rfl rfl rfl rfl rfl rfl g0 ha1 T1 E1 (fun h2 T2 E2 F2 P2 => ?_)
  refine zok_go ?_
  exact zseg4 (ct := zC_w2) (c0 := zW19) (gs := []) (d0 := d) (ty0 := ty1) (h0 := h2) (vl := [.ref ax, u2, u3]) (vm := []) (zE1_stable (by decide +kernel)) hd H (zEd_of (A := (-2147483648, 2147483647)) rfl (by decide) (by decide) (by decide +kernel) (zNin _ _ _ (by decide +kernel)) (zNin _ _ _ (by decide +kernel)) ha1 X1 (F1.tr X1 F2) P2) zK_w2 zExt.rf T2 E2 zFm.rf ⟨g0, ⟨ax, 1, rfl, ha1, Int.le_refl _, Int.le_refl _⟩, k2, G2, k3, G3, trivial⟩ trivial (fun g hg => absurd hg List.not_mem_nil)
/-- a call by a contract that throws nothing and makes nothing; the heap has no more cells -/
theorem zh_conL {sx : zX} {d j k : Nat} {lo : zL} {st rest : List Value} {h : zH} {Ψ : zO → zH → Nat → Nat → Prop} {M : zMi} {cs : List zI} {hs : List zHd} {j' : Nat} {as : List Value} {i : zI} {ct : zCt} {ty : List Nat} (J : zJ3 j M cs hs) (hi : cs[k]? = some i) (hn : i.1 ≠ 50 ∧ i.1 ≠ 51 ∧ i.1 ≠ 52 ∧ i.1 ≠ 53 ∧ i.1 ≠ 62) (hc : z_cal i d st h = some (j', as, rest)) (V : zVd z_tt zE1 ct) (hj : zcJ ct = j') (hd : zcD ct + 1 ≤ d) (he : zcE ct = []) (hk : (zcK ct).1 = 0 ∧ (zcK ct).2.1 = 0) (T : zTY z_tt ty h) (E : zE1 ty h) (hA : zAg ty (zcA ct) as) (kk : ∀ (ty' : List Nat) (h' : zH) (v : Option Value), zExt ty ty' → zTY z_tt ty' h' → zE1 ty' h' → zFm (zcM ct) ty h h' → zRt ty' (zcR ct) v → h'.length ≤ h.length → z_ok sx d j (k + 1) lo (v.toList ++ rest) h' Ψ) : z_ok sx d j k lo st h Ψ := by
  subst hj
  refine zh_run J hi hn hc (z_ok.len (V sx (d - 1) ty h as (by omega) T E hA)) (fun o h' x y q => ?_)
  obtain ⟨⟨ty', q1, q2, q3, q4, q5⟩, q8⟩ := q
  cases o with
  | inl v =>
    obtain ⟨q5, q6, q7⟩ := q5
    exact ⟨v, rfl, by omega, by omega, kk ty' h' v q1 q2 q3 q4 q5 (by omega)⟩
  | inr e =>
    rw [he] at q5
    exact absurd q5.1 List.not_mem_nil
theorem zh_throw {sx : zX} {d j k a b : Nat} {z : Int} {lo : zL} {st : List Value} {h : zH} {Ψ : zO → zH → Nat → Nat → Prop} {M : zMi} {cs : List zI} {hs : List zHd} (J : zJ3 j M cs hs) (hi : cs[k]? = some (62, a, b, z)) (hd : 6 ≤ d) (hz : z_cat st ≤ 8) (kk : Ψ (.inr a) h 1 6) : z_ok sx d j k lo st h Ψ := by
  refine z_ok.fin J.1 J.2.1 J.2.2 hi ?_ kk
  rw [z_fin62 rfl]
  exact if_pos ⟨hd, hz⟩
theorem zJ_121 : zJ3 121 z_m121 z_c121 z_h121 := ⟨rfl, rfl, rfl⟩
noncomputable def zC_l3 : zCt := (121, [(2, 1, 1)], [(0, 0, 12)], [], [(8, 5, 5), (17, 2, 2)], 31, (0, 0, 0, 0), [])
noncomputable def zL24 : zCut := (24, [(0, (2, 1, 1)), (1, (2, 100, 112))], [], [])
theorem zK_l3 : zxs z_tt zCtl zCand 105 zC_l3 (zstop4 []) (zht4 z_tt zC_l3 zL24 []) 4000 (zc_st zC_l3 zL24) = true := by decide +kernel
set_option maxRecDepth 100000 in
theorem zS_121 {sx : zX} {d : Nat} {ty : List Nat} {h : zH} {ax : Nat} (H : ∀ c, c < 105 → ∀ c', zCtl[c]? = some c' → zVd z_tt zE1 c') (hd : 31 ≤ d) (T : zTY z_tt ty h) (E : zE1 ty h) (ha : ty[ax]? = some 1) (hB : h.length + 6 ≤ zB) : z_ok sx d 121 0 (lv_args 0 [.ref ax]) [] h (zEd ty h ax [(1, 7, 7), (2, 1, 3), (4, 4, 5), (5, 0, 11), (6, 0, 11), (7, 0, 399), (8, 5, 5), (17, 2, 2)] 6 900 [0]) := by
  show z_ok sx d 121 0 [(0, .ref ax)] [] h _
  obtain ⟨fs, he, hl⟩ := zcell0 (c := 8) (n := 8) T ha rfl rfl rfl
  obtain ⟨r, f1, hr⟩ := zfd2 (b := 1) (u := 4) T ha he (by omega) (by decide +kernel)
  obtain ⟨t, f0, ht⟩ := zfd2 (b := 0) (u := 2) T ha he (by omega) (by decide +kernel)
  obtain ⟨rs, her, hlr⟩ := zcell0 (c := 3) (n := 6) T hr rfl rfl rfl
  refine zh zJ_121 (i := (2, 0, 0, 0)) rfl rfl (k' := 1) (lo' := [(0, .ref ax)]) (st' := [.ref ax]) (h' := h) rfl ?_
  refine zh zJ_121 (i := (2, 0, 0, 0)) rfl rfl (k' := 2) (lo' := [(0, .ref ax)]) (st' := [.ref ax, .ref ax]) (h' := h) rfl ?_
  refine zh_get zJ_121 (b := 1) (c := 8) (z := 0) rfl (k' := 3) rfl he f1 ?_
  refine zh zJ_121 (i := (2, 0, 0, 0)) rfl rfl (k' := 4) (lo' := [(0, .ref ax)]) (st' := [.ref ax, .ref r, .ref ax]) (h' := h) rfl ?_
  refine zh_get zJ_121 (b := 0) (c := 8) (z := 0) rfl (k' := 5) rfl he f0 ?_
  refine zh_conL (as := [.ref r, .ref t]) (rest := [.ref ax]) (ct := zC104) zJ_121 (i := (54, 47, 1, 3)) rfl (by decide) (zcal54 (xs := [.ref t]) (by omega) rfl rfl her rfl (Nat.le_of_ble_eq_true rfl) (M' := z_m47) rfl (Nat.le_of_ble_eq_true rfl)) (H 104 (by omega) _ rfl) rfl (by show 23 + 1 ≤ d; omega) rfl ⟨rfl, rfl⟩ T E ⟨⟨r, 4, rfl, hr, Int.le_refl _, Int.le_refl _⟩, ⟨t, 2, rfl, ht, Int.le_refl _, Int.le_refl _⟩, trivial⟩ (fun ty1 h1 v X1 T1 E1 F1 V1 L1 => ?_)
  match v, V1 with
  | some v, V1 =>
  obtain ⟨c, rfl, -⟩ := V1
  have ha1 := X1 ax 1 ha
  obtain ⟨fs1, he1, hl1⟩ := zcell0 (c := 8) (n := 8) T1 ha1 rfl rfl rfl
  show z_ok sx d 121 6 [(0, .ref ax)] [.int c, .ref ax] h1 _
  refine zputT zJ_121 (k' := 7) rfl rfl T1 E1 ha1 he1 (by omega) (zFull_ok c) (by decide +kernel) [(1, 7, 7)] (by decide +kernel) (by decide +kernel) rfl (fun h2 T2 E2 F2 he2 hq2 => ?_)
  refine zemp (k4 := 11) zJ_121 rfl rfl rfl rfl rfl rfl rfl rfl rfl ha1 T2 E2 (fun h3 T3 E3 F3 P3 => ?_)
  have F03 : zFm [(1, 7, 7), (2, 1, 3), (4, 4, 5), (5, 0, 11), (6, 0, 11), (7, 0, 399), (8, 5, 5), (17, 2, 2)] ty h h3 := ((F1.wide (by decide +kernel)).tr X1 (F2.wide (by decide +kernel))).tr X1 (F3.wide (by decide +kernel))
  have L3 : h3.length ≤ h.length := by rw [T3.len T1]; exact L1
  obtain ⟨fs3, he3, hl3⟩ := zcell0 (c := 8) (n := 8) T3 ha1 rfl rfl rfl
  obtain ⟨x7, f7, -⟩ := zfd0 (b := 7) (lo := -2147483648) (hi := 2147483647) T3 ha1 he3 (by omega) (by decide +kernel)
  obtain ⟨r3, f13, hr3⟩ := zfd2 (b := 1) (u := 4) T3 ha1 he3 (by omega) (by decide +kernel)
  obtain ⟨rs3, her3, hlr3⟩ := zcell0 (c := 3) (n := 6) T3 hr3 rfl rfl rfl
  refine zh zJ_121 (i := (2, 0, 0, 0)) rfl rfl (k' := 12) (lo' := [(0, .ref ax)]) (st' := [.ref ax]) (h' := h3) rfl ?_
  refine zh_get zJ_121 (b := 7) (c := 8) (z := 0) rfl (k' := 13) rfl he3 f7 ?_
  refine zh zJ_121 (i := (0, 0, 0, -1)) rfl rfl (k' := 14) (lo' := [(0, .ref ax)]) (st' := [.int (Int32.ofInt (-1)), .int x7]) (h' := h3) rfl ?_
  refine zh_icmp zJ_121 (a := 20) (b := 0) (z := 0) rfl (fun hc1 => ?_) (fun hc1 => ?_)
  · refine zh zJ_121 (i := (2, 0, 0, 0)) rfl rfl (k' := 21) (lo' := [(0, .ref ax)]) (st' := [.ref ax]) (h' := h3) rfl ?_
    refine zh_get zJ_121 (b := 1) (c := 8) (z := 0) rfl (k' := 22) rfl he3 f13 ?_
    refine z_ok.call zJ_121.1 zJ_121.2.1 zJ_121.2.2 (i := (54, 48, 0, 3)) rfl (z_fin_no (by decide)) (zcal54 (xs := []) (rest := []) (by omega) rfl rfl her3 rfl (Nat.le_of_ble_eq_true rfl) (M' := z_m48) rfl (Nat.le_of_ble_eq_true rfl)) (z_ok.imp (zS_48 (sx := sx) (d := d - 1) (by omega) T3 E3 hr3 (by omega)) (fun o h4 a b q => ?_))
    obtain ⟨ty4, L, rfl, X4, T4, E4, F4, qa, qb, hL, hL2⟩ := q
    show z_ok sx d 121 23 [(0, .ref ax)] [.ref h3.length] h4 _
    refine zh zJ_121 (i := (5, 1, 0, 0)) rfl rfl (k' := 24) (lo' := [(1, .ref h3.length), (0, .ref ax)]) (st' := []) (h' := h4) rfl ?_
    have ha4 := X4 ax 1 ha1
    have P4 := P3.keep ha1 T4 X4 F4 (zNin _ _ _ (by decide +kernel)) (zNin _ _ _ (by decide +kernel))
    refine z_ok.imp (zok_go (zseg4 (ct := zC_l3) (c0 := zL24) (gs := []) (d0 := d) (ty0 := ty4) (h0 := h4) (vl := [.ref ax, .ref h3.length]) (vm := []) (zE1_stable (by decide +kernel)) hd H (zEd_of (A := (0, 12)) (kx := 0) (ky := 0) (es := []) rfl (by decide) (by decide) (by decide +kernel) (zNin _ _ _ (by decide +kernel)) (zNin _ _ _ (by decide +kernel)) ha4 (X1.tr X4) (F03.tr X1 (F4.wide (by decide +kernel))) P4) zK_l3 zExt.rf T4 E4 zFm.rf ⟨rfl, ⟨ax, 1, rfl, ha4, Int.le_refl _, Int.le_refl _⟩, rfl, ⟨_, 100 + L, rfl, hL, by omega, by omega⟩, trivial⟩ trivial (fun g hg => absurd hg List.not_mem_nil))) (fun o h5 x y q => ?_)
    obtain ⟨ty5, X5, T5, E5, F5, P5, q⟩ := q
    refine ⟨ty5, X5, T5, E5, F5, P5, ?_⟩
    cases o with
    | inl v => exact ⟨q.1, by omega, by omega⟩
    | inr e => exact absurd q.1 List.not_mem_nil
  · refine zh_throw zJ_121 (a := 0) (b := 2) (z := 0) rfl (by omega) (Nat.zero_le _) ?_
    exact ⟨ty1, X1, T3, E3, F03, P3, List.mem_singleton.mpr rfl, Nat.le_refl _, Nat.le_refl _⟩
theorem zlstore {sx : zX} {d j k k' p q : Nat} {z : Int} {lo : zL} {h : zH} {Ψ : zO → zH → Nat → Nat → Prop} {M : zMi} {cs : List zI} {hs : List zHd} {ty : List Nat} {ao : Nat} {v : Int64} (J : zJ3 j M cs hs) (hi : cs[k]? = some (43, p, q, z)) (hk : k + 1 = k') (T : zTY z_tt ty h) (E : zE1 ty h) (ho : ty[ao]? = some 33) (kk : ∀ h', zTY z_tt ty h' → zE1 ty h' → zFm [(33, 0, 0)] ty h h' → z_ok sx d j k' lo [] h' Ψ) : z_ok sx d j k lo [.long v, .int (Int32.ofInt (0)), .ref ao] h Ψ := by
  obtain ⟨e, he, hs9, -⟩ := zcell T ho
  obtain ⟨f, rfl⟩ : ∃ f, e = .inl (2, (1, .inr (.inl f))) := by
    obtain ⟨f, hf⟩ := zsh3 hs9 rfl
    exact ⟨f, hf⟩
  have hs' : z_sh (z_tt 33) (.inl (2, (1, .inr (.inl (vp_updL f 0 v))))) := rfl
  have T' := T.wr (i := 0) (v := .long v) ho he hs' (z_rd_long (by omega)) (zst_ok (a := (1, -9223372036854775808, 9223372036854775807)) (ilo := 0) (ihi := 0) (by decide +kernel) ⟨v, rfl, (zb64 v).1, (zb64 v).2⟩ (by omega) (by omega))
  have F' := zFm.wr (ms := [(33, 0, 0)]) (i := 0) (v := .long v) ho he (z_rd_long (by omega)) ⟨_, List.mem_singleton.mpr rfl, rfl, by decide, by decide⟩
  refine zh J hi rfl ?_ (kk _ T' (zE1_stable (by decide +kernel) ty h _ T T' (T.len T') F' E) F')
  show zo_last sx d p q z k lo [.long v, .int (Int32.ofInt (0)), .ref ao] h = _
  unfold zo_last
  dsimp only
  rw [he, ← hk]
  rfl
noncomputable def zWr (ty : List Nat) (h : zH) (ax : Nat) (ms : List zMod) (kx ky : Nat) : zO → zH → Nat → Nat → Prop := fun o h' x y => ∃ (c : Int32) (ty' : List Nat), o = .inl (some (.int c)) ∧ zExt ty ty' ∧ zTY z_tt ty' h' ∧ zE1 ty' h' ∧ zFm ms ty h h' ∧ zTp ty' h' ax 0 ∧ x ≤ kx ∧ y ≤ ky
theorem zJ_315 : zJ3 315 z_m315 z_c315 z_h315 := ⟨rfl, rfl, rfl⟩
set_option maxRecDepth 100000 in
theorem zS_315 {sx : zX} {d : Nat} {ty : List Nat} {h : zH} {ax ao : Nat} (H : ∀ c, c < 72 → ∀ c', zCtl[c]? = some c' → zVd z_tt zE1 c') (hd : 13 ≤ d) (T : zTY z_tt ty h) (E : zE1 ty h) (ha : ty[ax]? = some 1) (ho : ty[ao]? = some 33) : z_ok sx d 315 0 (lv_args 0 [.ref ax, .ref ao]) [] h (zWr ty h ax [(1, 7, 7), (2, 1, 3), (8, 5, 17), (9, 4, 4), (10, 0, 5), (11, 2, 3), (12, 0, 7), (13, 1, 2), (14, 0, 299), (16, 0, 23), (17, 2, 2), (33, 0, 0)] 1 6) := by
  show z_ok sx d 315 0 [(0, .ref ax), (1, .ref ao)] [] h _
  obtain ⟨fs, he, hl⟩ := zcell0 (c := 8) (n := 8) T ha rfl rfl rfl
  refine zh zJ_315 (i := (2, 1, 0, 0)) rfl rfl (k' := 1) (lo' := [(0, .ref ax), (1, .ref ao)]) (st' := [.ref ao]) (h' := h) rfl ?_
  refine zh zJ_315 (i := (0, 0, 0, 0)) rfl rfl (k' := 2) (lo' := [(0, .ref ax), (1, .ref ao)]) (st' := [.int (Int32.ofInt (0)), .ref ao]) (h' := h) rfl ?_
  refine zh zJ_315 (i := (2, 0, 0, 0)) rfl rfl (k' := 3) (lo' := [(0, .ref ax), (1, .ref ao)]) (st' := [.ref ax, .int (Int32.ofInt (0)), .ref ao]) (h' := h) rfl ?_
  refine z_ok.call zJ_315.1 zJ_315.2.1 zJ_315.2.2 (i := (54, 120, 0, 8)) rfl (z_fin_no (by decide)) (zcal54 (xs := []) (rest := [.int (Int32.ofInt (0)), .ref ao]) (by omega) rfl rfl he rfl (Nat.le_of_ble_eq_true rfl) (M' := z_m120) rfl (Nat.le_of_ble_eq_true rfl)) (z_ok.imp (zS_120 (sx := sx) (d := d - 1) H (by omega) T E ha) (fun o h1 x y q => ?_))
  obtain ⟨ty1, X1, T1, E1, F1, P1, q⟩ := q
  have ha1 := X1 ax 1 ha
  have ho1 := X1 ao 33 ho
  cases o with
  | inl v =>
    obtain ⟨⟨c, rfl⟩, q1, q2⟩ := q
    show z_ok sx d 315 4 [(0, .ref ax), (1, .ref ao)] [.int c, .int (Int32.ofInt (0)), .ref ao] h1 _
    refine zh zJ_315 (i := (19, 0, 0, 0)) rfl rfl (k' := 5) (lo' := [(0, .ref ax), (1, .ref ao)]) (st' := [.long c.toInt64, .int (Int32.ofInt (0)), .ref ao]) (h' := h1) rfl ?_
    refine zlstore zJ_315 rfl (k' := 6) rfl T1 E1 ho1 (fun h2 T2 E2 F2 => ?_)
    refine zh zJ_315 (i := (30, 13, 0, 0)) rfl rfl (k' := 13) (lo' := [(0, .ref ax), (1, .ref ao)]) (st' := []) (h' := h2) rfl ?_
    refine zh zJ_315 (i := (0, 0, 0, 0)) rfl rfl (k' := 14) (lo' := [(0, .ref ax), (1, .ref ao)]) (st' := [.int (Int32.ofInt (0))]) (h' := h2) rfl ?_
    refine zh_iret zJ_315 (a := 0) (b := 0) (z := 0) rfl (Or.inl rfl) ?_
    exact ⟨_, ty1, rfl, X1, T2, E2, (F1.wide (by decide +kernel)).tr X1 (F2.wide (by decide +kernel)), P1.keep ha1 T2 zExt.rf F2 (zNin _ _ _ (by decide +kernel)) (zNin _ _ _ (by decide +kernel)), by omega, by omega⟩
  | inr e =>
    obtain ⟨q1, q2, q3⟩ := q
    rcases List.mem_cons.mp q1 with rfl | q1
    · refine ⟨rfl, ?_⟩
      show z_ok sx d 315 8 [(0, .ref ax), (1, .ref ao)] [] h1 _
      refine zh zJ_315 (i := (0, 0, 0, 1)) rfl rfl (k' := 9) (lo' := [(0, .ref ax), (1, .ref ao)]) (st' := [.int (Int32.ofInt (1))]) (h' := h1) rfl ?_
      refine zh_iret zJ_315 (a := 0) (b := 0) (z := 0) rfl (Or.inl rfl) ?_
      exact ⟨_, ty1, rfl, X1, T1, E1, F1.wide (by decide +kernel), P1, by omega, by omega⟩
    have q1 := List.mem_singleton.mp q1
    subst q1
    refine ⟨rfl, ?_⟩
    show z_ok sx d 315 11 [(0, .ref ax), (1, .ref ao)] [] h1 _
    refine zh zJ_315 (i := (0, 0, 0, 2)) rfl rfl (k' := 12) (lo' := [(0, .ref ax), (1, .ref ao)]) (st' := [.int (Int32.ofInt (2))]) (h' := h1) rfl ?_
    refine zh_iret zJ_315 (a := 0) (b := 0) (z := 0) rfl (Or.inl rfl) ?_
    exact ⟨_, ty1, rfl, X1, T1, E1, F1.wide (by decide +kernel), P1, by omega, by omega⟩
theorem zJ_316 : zJ3 316 z_m316 z_c316 z_h316 := ⟨rfl, rfl, rfl⟩
set_option maxRecDepth 100000 in
theorem zS_316 {sx : zX} {d : Nat} {ty : List Nat} {h : zH} {ax ao : Nat} (H : ∀ c, c < 105 → ∀ c', zCtl[c]? = some c' → zVd z_tt zE1 c') (hd : 32 ≤ d) (hB : h.length + 6 ≤ zB) (T : zTY z_tt ty h) (E : zE1 ty h) (ha : ty[ax]? = some 1) (ho : ty[ao]? = some 33) : z_ok sx d 316 0 (lv_args 0 [.ref ax, .ref ao]) [] h (zWr ty h ax [(1, 7, 7), (2, 1, 3), (4, 4, 5), (5, 0, 11), (6, 0, 11), (7, 0, 399), (8, 5, 5), (17, 2, 2), (33, 0, 0)] 6 900) := by
  show z_ok sx d 316 0 [(0, .ref ax), (1, .ref ao)] [] h _
  obtain ⟨fs, he, hl⟩ := zcell0 (c := 8) (n := 8) T ha rfl rfl rfl
  refine zh zJ_316 (i := (2, 1, 0, 0)) rfl rfl (k' := 1) (lo' := [(0, .ref ax), (1, .ref ao)]) (st' := [.ref ao]) (h' := h) rfl ?_
  refine zh zJ_316 (i := (0, 0, 0, 0)) rfl rfl (k' := 2) (lo' := [(0, .ref ax), (1, .ref ao)]) (st' := [.int (Int32.ofInt (0)), .ref ao]) (h' := h) rfl ?_
  refine zh zJ_316 (i := (2, 0, 0, 0)) rfl rfl (k' := 3) (lo' := [(0, .ref ax), (1, .ref ao)]) (st' := [.ref ax, .int (Int32.ofInt (0)), .ref ao]) (h' := h) rfl ?_
  refine z_ok.call zJ_316.1 zJ_316.2.1 zJ_316.2.2 (i := (54, 121, 0, 8)) rfl (z_fin_no (by decide)) (zcal54 (xs := []) (rest := [.int (Int32.ofInt (0)), .ref ao]) (by omega) rfl rfl he rfl (Nat.le_of_ble_eq_true rfl) (M' := z_m121) rfl (Nat.le_of_ble_eq_true rfl)) (z_ok.imp (zS_121 (sx := sx) (d := d - 1) H (by omega) T E ha hB) (fun o h1 x y q => ?_))
  obtain ⟨ty1, X1, T1, E1, F1, P1, q⟩ := q
  have ha1 := X1 ax 1 ha
  have ho1 := X1 ao 33 ho
  cases o with
  | inl v =>
    obtain ⟨⟨c, rfl⟩, q1, q2⟩ := q
    show z_ok sx d 316 4 [(0, .ref ax), (1, .ref ao)] [.int c, .int (Int32.ofInt (0)), .ref ao] h1 _
    refine zh zJ_316 (i := (19, 0, 0, 0)) rfl rfl (k' := 5) (lo' := [(0, .ref ax), (1, .ref ao)]) (st' := [.long c.toInt64, .int (Int32.ofInt (0)), .ref ao]) (h' := h1) rfl ?_
    refine zlstore zJ_316 rfl (k' := 6) rfl T1 E1 ho1 (fun h2 T2 E2 F2 => ?_)
    refine zh zJ_316 (i := (30, 10, 0, 0)) rfl rfl (k' := 10) (lo' := [(0, .ref ax), (1, .ref ao)]) (st' := []) (h' := h2) rfl ?_
    refine zh zJ_316 (i := (0, 0, 0, 0)) rfl rfl (k' := 11) (lo' := [(0, .ref ax), (1, .ref ao)]) (st' := [.int (Int32.ofInt (0))]) (h' := h2) rfl ?_
    refine zh_iret zJ_316 (a := 0) (b := 0) (z := 0) rfl (Or.inl rfl) ?_
    exact ⟨_, ty1, rfl, X1, T2, E2, (F1.wide (by decide +kernel)).tr X1 (F2.wide (by decide +kernel)), P1.keep ha1 T2 zExt.rf F2 (zNin _ _ _ (by decide +kernel)) (zNin _ _ _ (by decide +kernel)), by omega, by omega⟩
  | inr e =>
    obtain ⟨q1, q2, q3⟩ := q
    have q1 := List.mem_singleton.mp q1
    subst q1
    refine ⟨rfl, ?_⟩
    show z_ok sx d 316 8 [(0, .ref ax), (1, .ref ao)] [] h1 _
    refine zh zJ_316 (i := (0, 0, 0, 1)) rfl rfl (k' := 9) (lo' := [(0, .ref ax), (1, .ref ao)]) (st' := [.int (Int32.ofInt (1))]) (h' := h1) rfl ?_
    refine zh_iret zJ_316 (a := 0) (b := 0) (z := 0) rfl (Or.inl rfl) ?_
    exact ⟨_, ty1, rfl, X1, T1, E1, F1.wide (by decide +kernel), P1, by omega, by omega⟩
theorem zJ_333 : zJ3 333 z_m333 z_c333 z_h333 := ⟨rfl, rfl, rfl⟩
set_option maxRecDepth 100000 in
theorem zS_333 {sx : zX} {d : Nat} {ty : List Nat} {h : zH} {ax ao : Nat} {v : Int32} (H : ∀ c, c < 151 → ∀ c', zCtl[c]? = some c' → zVd z_tt zE1 c') (hd : 7 ≤ d) (hv : 0 ≤ v.toInt ∧ v.toInt ≤ 1) (T : zTY z_tt ty h) (E : zE1 ty h) (ha : ty[ax]? = some 1) (ho : ty[ao]? = some 33) : z_ok sx d 333 0 (lv_args 0 [.ref ax, .int v, .ref ao]) [] h (zWr ty h ax [(2, 1, 1), (33, 0, 0)] 1 6) := by
  show z_ok sx d 333 0 [(0, .ref ax), (1, .int v), (2, .ref ao)] [] h _
  obtain ⟨fs, he, hl⟩ := zcell0 (c := 8) (n := 8) T ha rfl rfl rfl
  refine zh zJ_333 (i := (2, 2, 0, 0)) rfl rfl (k' := 1) (lo' := [(0, .ref ax), (1, .int v), (2, .ref ao)]) (st' := [.ref ao]) (h' := h) rfl ?_
  refine zh zJ_333 (i := (0, 0, 0, 0)) rfl rfl (k' := 2) (lo' := [(0, .ref ax), (1, .int v), (2, .ref ao)]) (st' := [.int (Int32.ofInt (0)), .ref ao]) (h' := h) rfl ?_
  refine zh zJ_333 (i := (2, 0, 0, 0)) rfl rfl (k' := 3) (lo' := [(0, .ref ax), (1, .int v), (2, .ref ao)]) (st' := [.ref ax, .int (Int32.ofInt (0)), .ref ao]) (h' := h) rfl ?_
  refine zh zJ_333 (i := (1, 1, 0, 0)) rfl rfl (k' := 4) (lo' := [(0, .ref ax), (1, .int v), (2, .ref ao)]) (st' := [.int v, .ref ax, .int (Int32.ofInt (0)), .ref ao]) (h' := h) rfl ?_
  refine z_ok.call zJ_333.1 zJ_333.2.1 zJ_333.2.2 (i := (54, 146, 1, 8)) rfl (z_fin_no (by decide)) (zcal54 (xs := [.int v]) (rest := [.int (Int32.ofInt (0)), .ref ao]) (by omega) rfl rfl he rfl (Nat.le_of_ble_eq_true rfl) (M' := z_m146) rfl (Nat.le_of_ble_eq_true rfl)) (z_ok.imp (zS_146 (sx := sx) (d := d - 1) H (by omega) T E ha hv) (fun o h1 x y q => ?_))
  obtain ⟨ty1, X1, T1, E1, F1, P1, q⟩ := q
  have ha1 := X1 ax 1 ha
  have ho1 := X1 ao 33 ho
  cases o with
  | inl v =>
    obtain ⟨⟨c, rfl⟩, q1, q2⟩ := q
    show z_ok sx d 333 5 [(0, .ref ax), (1, .int v), (2, .ref ao)] [.int c, .int (Int32.ofInt (0)), .ref ao] h1 _
    refine zh zJ_333 (i := (19, 0, 0, 0)) rfl rfl (k' := 6) (lo' := [(0, .ref ax), (1, .int v), (2, .ref ao)]) (st' := [.long c.toInt64, .int (Int32.ofInt (0)), .ref ao]) (h' := h1) rfl ?_
    refine zlstore zJ_333 rfl (k' := 7) rfl T1 E1 ho1 (fun h2 T2 E2 F2 => ?_)
    refine zh zJ_333 (i := (30, 11, 0, 0)) rfl rfl (k' := 11) (lo' := [(0, .ref ax), (1, .int v), (2, .ref ao)]) (st' := []) (h' := h2) rfl ?_
    refine zh zJ_333 (i := (0, 0, 0, 0)) rfl rfl (k' := 12) (lo' := [(0, .ref ax), (1, .int v), (2, .ref ao)]) (st' := [.int (Int32.ofInt (0))]) (h' := h2) rfl ?_
    refine zh_iret zJ_333 (a := 0) (b := 0) (z := 0) rfl (Or.inl rfl) ?_
    exact ⟨_, ty1, rfl, X1, T2, E2, (F1.wide (by decide +kernel)).tr X1 (F2.wide (by decide +kernel)), P1.keep ha1 T2 zExt.rf F2 (zNin _ _ _ (by decide +kernel)) (zNin _ _ _ (by decide +kernel)), by omega, by omega⟩
  | inr e =>
    obtain ⟨q1, q2, q3⟩ := q
    have q1 := List.mem_singleton.mp q1
    subst q1
    refine ⟨rfl, ?_⟩
    show z_ok sx d 333 9 [(0, .ref ax), (1, .int v), (2, .ref ao)] [] h1 _
    refine zh zJ_333 (i := (0, 0, 0, 1)) rfl rfl (k' := 10) (lo' := [(0, .ref ax), (1, .int v), (2, .ref ao)]) (st' := [.int (Int32.ofInt (1))]) (h' := h1) rfl ?_
    refine zh_iret zJ_333 (a := 0) (b := 0) (z := 0) rfl (Or.inl rfl) ?_
    exact ⟨_, ty1, rfl, X1, T1, E1, F1.wide (by decide +kernel), P1, by omega, by omega⟩
theorem zJ_299 : zJ3 299 z_m299 z_c299 z_h299 := ⟨rfl, rfl, rfl⟩
noncomputable def zY2 : zCut := (2, [(0, (2, 20, 20)), (1, (0, 0, 1))], [], [(0, 0, 0, 3), (0, 0, 0, 0), (0, 0, 0, 0)])
noncomputable def zY12 : zCut := (12, [(0, (2, 20, 20)), (1, (0, 0, 1)), (2, (0, 0, 1)), (3, (0, 0, 400))], [(0, 11, (0, 0, 400))], [(0, 0, 0, 2), (1, 3, 0, 400), (0, 0, 0, 1)])
noncomputable def zY46 : zCut := (46, [(0, (2, 20, 20)), (1, (0, 0, 1)), (2, (0, 1, 1)), (3, (0, 0, 63)), (4, (0, 0, 2147483647)), (5, (0, 0, 400))], [(0, 1, (2, 21, 21)), (0, 11, (0, 0, 400))], [(0, 0, 0, 1), (1, 5, 0, 400), (0, 0, 0, 1)])
noncomputable def zC_wm : zCt := (299, [(2, 20, 20), (0, 0, 1)], [(0, 0, 9999)], [], [(20, 0, 0)], 6, (0, 0, 0, 0), [zY2, zY12, zY46])
theorem zK_wm2 : zx z_tt zCtl zCand 216 zC_wm (some zY2) 4000 (zc_st zC_wm zY2) = true := by decide +kernel
theorem zK_wm12 : zx z_tt zCtl zCand 216 zC_wm (some zY12) 4000 (zc_st zC_wm zY12) = true := by decide +kernel
theorem zK_wm46 : zx z_tt zCtl zCand 216 zC_wm (some zY46) 4000 (zc_st zC_wm zY46) = true := by decide +kernel
set_option maxRecDepth 100000 in
theorem zS_299 {sx : zX} {ty : List Nat} {a d : Nat} {h : zH} {v : Int32} (H : ∀ c, c < 216 → ∀ c', zCtl[c]? = some c' → zVd z_tt zE1 c') (hd : 6 ≤ d) (T : zTY z_tt ty h) (E : zE1 ty h) (ha : ty[a]? = some 20) (hv : 0 ≤ v.toInt ∧ v.toInt ≤ 1) : z_ok sx d 299 0 (lv_args 0 [.ref a, .int v]) [] h (zRq (fun v h' => (∃ c : Int32, v = some (.int c)) ∧ ∃ ty', zExt ty ty' ∧ zTY z_tt ty' h' ∧ zE1 ty' h' ∧ zFm [(20, 0, 0), (20, 9, 11)] ty h h' ∧ zNi h' a)) := by
  show z_ok sx d 299 0 [(0, .ref a), (1, .int v)] [] h _
  refine zh zJ_299 (i := (2, 0, 0, 0)) rfl rfl (k' := 1) (lo' := [(0, .ref a), (1, .int v)]) (st' := [.ref a]) (h' := h) rfl ?_
  obtain ⟨fs, he, hl⟩ := zcell0 (c := 9) (n := 23) T ha rfl rfl rfl
  refine zh_run (rest := []) (as := [.ref a]) zJ_299 (i := (54, 210, 0, 9)) rfl (by decide) (zcal54 (xs := []) (by omega) rfl rfl he rfl (Nat.le_of_ble_eq_true rfl) (M' := z_m210) rfl (Nat.le_of_ble_eq_true rfl)) (zS_210 T E ha) (fun o hh x y q => ?_)
  obtain ⟨v9, rfl, rfl, rfl, rfl, T1, E1, F1, N1⟩ := q
  refine ⟨_, rfl, rfl, rfl, ?_⟩
  have hgo := zcut_ok (sx := sx) (d0 := d) (ty0 := ty) (h0 := hh) (ct := zC_wm) (own := 216) (cts := zCtl) (cand := zCand) (N := 3) (fuel := 4000) (zE1_stable (by decide +kernel)) hd (fun c hc c' hc' => H c hc c' hc') (by decide +kernel) (fun c hc => by
    rcases List.mem_cons.mp hc with rfl | hc
    · exact zK_wm2
    rcases List.mem_cons.mp hc with rfl | hc
    · exact zK_wm12
    · rw [List.mem_singleton.mp hc]; exact zK_wm46) (zY2.2.2.2.map (zmc [(0, .ref a), (1, .int v)] hh)) rfl zY2 List.mem_cons_self ty [(0, .ref a), (1, .int v)] hh [.ref a, .int v] [] rfl zExt.rf T1 E1 zFm.rf ⟨rfl, ⟨a, 20, rfl, ha, Int.le_refl _, Int.le_refl _⟩, rfl, ⟨v, rfl, hv.1, hv.2⟩, trivial⟩ trivial
  refine z_ok.imp hgo (fun o h2 x y q => ?_)
  have q : zPo z_tt zE1 zC_wm ty hh o h2 (x + 0) (y + 0) := q
  obtain ⟨ty', X, T2, E2, F2, q⟩ := q
  cases o with
  | inr e => exact absurd q.1 List.not_mem_nil
  | inl v =>
  obtain ⟨q1, q2, q3⟩ := q
  have q2 : x + 0 ≤ 0 := q2
  have q3 : y + 0 ≤ 0 := q3
  cases v with
  | none => exact q1.elim
  | some v =>
  obtain ⟨c, rfl, c1, c2⟩ := q1
  exact ⟨_, rfl, by omega, by omega, ⟨c, rfl⟩, ty', X, T2, E2, (F1.wide (by decide +kernel)).tr zExt.rf (F2.wide (by decide +kernel)), N1.keep' T2 X ha F2 (zNin _ _ _ (by decide +kernel))⟩
end
