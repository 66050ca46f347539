/-! looksFor by hand; printed with wip/gen/gen_looks.py -/
noncomputable def zMlf : List zMod := [(20, 22, 22), (31, 0, 5), (32, 0, 5)]
noncomputable def zPlf (ty0 : List Nat) (h0 : zH) (a : Nat) : zO → zH → Nat → Nat → Prop := fun o h' x y => x = 0 ∧ y = 0 ∧ ∃ (ty' : List Nat) (r s' : Int32) (cf' : Nat → Int32), zExt ty0 ty' ∧ zTY z_tt ty' h' ∧ zE1 ty' h' ∧ zFm zMlf ty0 h0 h' ∧ o = .inl (some (.int r)) ∧ zSe h' a s' cf' ∧ zChn s' cf' ∧ (r.toInt = -1 ∨ (0 ≤ r.toInt ∧ r.toInt < 6 ∧ zbit s' r = true))
theorem zno20 {ms : List zMod} (h : ms = []) {t i : Nat} : ¬ zIn ms t i := by
  subst h
  rintro ⟨m, hm, -⟩
  cases hm
set_option maxRecDepth 100000 in
theorem zLp_285 {sx : zX} {d a : Nat} {ty0 : List Nat} {h0 : zH} {hr v : Int32} (hd : 14 ≤ d) (H : ∀ c, c < 240 → ∀ c', zCtl[c]? = some c' → zVd z_tt zE1 c') (ha0 : ty0[a]? = some 20) (r1 : 0 ≤ hr.toInt) (r2 : hr.toInt ≤ 23) : ∀ (rm : Nat) (ty : List Nat) (h : zH) (i : Nat) (x s : Int32) (cf : Nat → Int32), zExt ty0 ty → zTY z_tt ty h → zE1 ty h → zFm zMlf ty0 h0 h → x.toInt = (i : Int) → i + rm = 7 → zSe h a s cf → zChn s cf → (v.toInt = -1 ∨ (0 ≤ v.toInt ∧ v.toInt < 6 ∧ zbit s v = true)) → z_ok sx d 285 2 [(3, .int x), (0, .ref a), (1, .int hr), (2, .int v)] [] h (zPlf ty0 h0 a)
  | rm, ty, h, i, x, s, cf, X, T, E, F, hi, hrm, S, C, V => by
    have ih : ∀ (ty : List Nat) (h : zH) (i : Nat) (x s : Int32) (cf : Nat → Int32), zExt ty0 ty → zTY z_tt ty h → zE1 ty h → zFm zMlf ty0 h0 h → x.toInt = (i : Int) → i + (rm - 1) = 7 → 0 < rm → zSe h a s cf → zChn s cf → (v.toInt = -1 ∨ (0 ≤ v.toInt ∧ v.toInt < 6 ∧ zbit s v = true)) → z_ok sx d 285 2 [(3, .int x), (0, .ref a), (1, .int hr), (2, .int v)] [] h (zPlf ty0 h0 a) := fun ty h i x s cf b1 b2 b3 b4 b5 b6 b7 b8 b9 b10 => by
      cases rm with
      | zero => omega
      | succ rm => exact zLp_285 hd H ha0 r1 r2 rm ty h i x s cf b1 b2 b3 b4 b5 b6 b8 b9 b10
    refine zh zJ_285 (i := (1, 3, 0, 0)) rfl rfl (k' := 3) (lo' := [(3, .int x), (0, .ref a), (1, .int hr), (2, .int v)]) (st' := [.int x]) (h' := h) rfl ?_
    refine zh zJ_285 (i := (2, 0, 0, 0)) rfl rfl (k' := 4) (lo' := [(3, .int x), (0, .ref a), (1, .int hr), (2, .int v)]) (st' := [.ref a, .int x]) (h' := h) rfl ?_
    obtain ⟨fs0, he0, hl0⟩ := zcell0 (c := 9) (n := 23) T (X a 20 ha0) rfl rfl rfl
    refine zh_con zJ_285 (i := (54, 184, 0, 9)) (rest := [.int x]) (as := [.ref a]) rfl (by decide) (zcal54 (xs := []) (by omega) rfl rfl he0 rfl (Nat.le_of_ble_eq_true rfl) (M' := z_m184) rfl (Nat.le_of_ble_eq_true rfl)) (zck_ok (zE1_stable (by decide +kernel)) H zK_fam) rfl (by show 2 + 1 ≤ d; omega) rfl ⟨rfl, rfl⟩ T E ⟨⟨_, 20, rfl, X a 20 ha0, Int.le_refl _, Int.le_refl _⟩, trivial⟩ (fun ty1 h1 v1 Y1 T1 E1 F1 R1 => ?_)
    obtain ⟨u1, rfl, c, rfl, c1, c2⟩ := zRt1 R1
    have X1 := X.tr Y1
    have S1 := S.keep T (X a 20 ha0) F1 (fun _ _ _ => zno20 rfl) (fun _ => zno20 rfl)
    have G1 : zFm zMlf ty0 h0 h1 := F.tr X (F1.mono (fun _ _ q => absurd q (zno20 rfl)))
    show z_ok sx d 285 5 [(3, .int x), (0, .ref a), (1, .int hr), (2, .int v)] [.int c, .int x] h1 _
    refine zh_icmp zJ_285 (a := 47) (b := 3) (z := 0) rfl (fun hc => ?_) (fun hc => ?_)
    · refine zh zJ_285 (i := (0, 0, 0, -1)) rfl rfl (k' := 48) (lo' := [(3, .int x), (0, .ref a), (1, .int hr), (2, .int v)]) (st' := [.int (Int32.ofInt (-1))]) (h' := h1) rfl ?_
      refine zh_iret zJ_285 (a := 0) (b := 0) (z := 0) rfl (Or.inl rfl) ?_
      exact ⟨rfl, rfl, ty1, _, s, cf, X1, T1, E1, G1, rfl, S1, C, Or.inl rfl⟩
    · have hx6 : x.toInt < 6 := by
        have : ¬ c.toInt ≤ x.toInt := fun e => hc (zcmp_ge.mpr e)
        omega
      obtain ⟨fs, he, hl⟩ := zcell0 (c := 9) (n := 23) T1 (X1 a 20 ha0) rfl rfl rfl
      obtain ⟨e1, ec1, wc, k1, k2, k3, k4, k5⟩ := id S1
      rw [he] at k1
      cases k1
      have k2 : fs[22]? = some (.int s) := k2
      have k3 : fs[21]? = some (.ref wc) := k3
      refine zh zJ_285 (i := (2, 0, 0, 0)) rfl rfl (k' := 7) (lo' := [(3, .int x), (0, .ref a), (1, .int hr), (2, .int v)]) (st' := [.ref a]) (h' := h1) rfl ?_
      refine zh_get zJ_285 (a := a) (b := 22) (c := 9) (z := 0) rfl (k' := 8) rfl he k2 ?_
      refine zh zJ_285 (i := (1, 3, 0, 0)) rfl rfl (k' := 9) (lo' := [(3, .int x), (0, .ref a), (1, .int hr), (2, .int v)]) (st' := [.int x, .int s]) (h' := h1) rfl ?_
      refine zh_run zJ_285 (i := (55, 178, 2, 0)) (rest := []) (as := [.int s, .int x]) rfl (by decide) (zcal55 (xs := [.int x, .int s]) (by omega) rfl rfl (Nat.le_of_ble_eq_true rfl) (M' := z_m178) rfl (Nat.le_of_ble_eq_true rfl)) zR_178 (fun o h' x9 y9 q => ?_)
      obtain ⟨rfl, rfl, rfl, rfl⟩ := q
      refine ⟨_, rfl, rfl, rfl, ?_⟩
      show z_ok sx d 285 10 [(3, .int x), (0, .ref a), (1, .int hr), (2, .int v)] [.int (if zbit s x = true then 1 else 0)] h' _
      refine zh_if zJ_285 (a := 45) (b := 1) (z := 0) rfl (fun hc => ?_) (fun hc => ?_)
      · refine zh zJ_285 (i := (7, 3, 0, 1)) rfl rfl (k' := 46) (lo' := [(3, .int (x + Int32.ofInt (1))), (0, .ref a), (1, .int hr), (2, .int v)]) (st' := []) (h' := h') rfl ?_
        refine zh zJ_285 (i := (30, 2, 0, 0)) rfl rfl (k' := 2) (lo' := [(3, .int (x + Int32.ofInt (1))), (0, .ref a), (1, .int hr), (2, .int v)]) (st' := []) (h' := h') rfl ?_
        exact ih ty1 h' (i + 1) _ s cf X1 T1 E1 G1 (zinc hi (by omega)) (by omega) (by omega) S1 C V
      · have hnb : ¬ zbit s x = true := fun e => hc (by rw [if_pos e]; exact zcmp_ne.mpr (by decide))
        refine zh zJ_285 (i := (2, 0, 0, 0)) rfl rfl (k' := 12) (lo' := [(3, .int x), (0, .ref a), (1, .int hr), (2, .int v)]) (st' := [.ref a]) (h' := h') rfl ?_
        refine zh zJ_285 (i := (1, 3, 0, 0)) rfl rfl (k' := 13) (lo' := [(3, .int x), (0, .ref a), (1, .int hr), (2, .int v)]) (st' := [.int x, .ref a]) (h' := h') rfl ?_
        refine zh zJ_285 (i := (1, 1, 0, 0)) rfl rfl (k' := 14) (lo' := [(3, .int x), (0, .ref a), (1, .int hr), (2, .int v)]) (st' := [.int hr, .int x, .ref a]) (h' := h') rfl ?_
        refine zh_con zJ_285 (i := (54, 191, 2, 9)) (rest := []) (as := [.ref a, .int x, .int hr]) rfl (by decide) (zcal54 (xs := [.int hr, .int x]) (by omega) rfl rfl he rfl (Nat.le_of_ble_eq_true rfl) (M' := z_m191) rfl (Nat.le_of_ble_eq_true rfl)) (zck_ok (zE1_stable (by decide +kernel)) H zK_wsh) rfl (by show 6 + 1 ≤ d; omega) rfl ⟨rfl, rfl⟩ T1 E1 ⟨⟨_, 20, rfl, X1 a 20 ha0, Int.le_refl _, Int.le_refl _⟩, ⟨x, rfl, by omega, by omega⟩, ⟨hr, rfl, r1, r2⟩, trivial⟩ (fun ty2 h2 v2 Y2 T2 E2 F2 R2 => ?_)
        obtain ⟨u2, rfl, wv, rfl, -, -⟩ := zRt1 R2
        have X2 := X1.tr Y2
        have S2 := S1.keep T1 (X1 a 20 ha0) F2 (fun _ _ _ => zno20 rfl) (fun _ => zno20 rfl)
        have G2 : zFm zMlf ty0 h0 h2 := G1.tr X1 (F2.mono (fun _ _ q => absurd q (zno20 rfl)))
        show z_ok sx d 285 15 [(3, .int x), (0, .ref a), (1, .int hr), (2, .int v)] [.int wv] h2 _
        refine zh_if zJ_285 (a := 17) (b := 1) (z := 0) rfl (fun hc => ?_) (fun hc => ?_)
        · obtain ⟨fs, he, hl⟩ := zcell0 (c := 9) (n := 23) T2 (X2 a 20 ha0) rfl rfl rfl
          obtain ⟨e1, ec1, wc, k1, k2, k3, k4, k5⟩ := id S2
          rw [he] at k1
          cases k1
          have k2 : fs[22]? = some (.int s) := k2
          have k3 : fs[21]? = some (.ref wc) := k3
          refine zh zJ_285 (i := (2, 0, 0, 0)) rfl rfl (k' := 18) (lo' := [(3, .int x), (0, .ref a), (1, .int hr), (2, .int v)]) (st' := [.ref a]) (h' := h2) rfl ?_
          refine zh zJ_285 (i := (27, 0, 0, 0)) rfl rfl (k' := 19) (lo' := [(3, .int x), (0, .ref a), (1, .int hr), (2, .int v)]) (st' := [.ref a, .ref a]) (h' := h2) rfl ?_
          refine zh_get zJ_285 (a := a) (b := 22) (c := 9) (z := 0) rfl (k' := 20) rfl he k2 ?_
          refine zh zJ_285 (i := (0, 0, 0, 1)) rfl rfl (k' := 21) (lo' := [(3, .int x), (0, .ref a), (1, .int hr), (2, .int v)]) (st' := [.int (Int32.ofInt (1)), .int s, .ref a]) (h' := h2) rfl ?_
          refine zh zJ_285 (i := (1, 3, 0, 0)) rfl rfl (k' := 22) (lo' := [(3, .int x), (0, .ref a), (1, .int hr), (2, .int v)]) (st' := [.int x, .int (Int32.ofInt (1)), .int s, .ref a]) (h' := h2) rfl ?_
          refine zh zJ_285 (i := (13, 0, 0, 0)) rfl rfl (k' := 23) (lo' := [(3, .int x), (0, .ref a), (1, .int hr), (2, .int v)]) (st' := [.int ((Int32.ofInt (1)) <<< (x &&& 31)), .int s, .ref a]) (h' := h2) rfl ?_
          refine zh zJ_285 (i := (17, 0, 0, 0)) rfl rfl (k' := 24) (lo' := [(3, .int x), (0, .ref a), (1, .int hr), (2, .int v)]) (st' := [.int (s ||| ((Int32.ofInt (1)) <<< (x &&& 31))), .ref a]) (h' := h2) rfl ?_
          obtain ⟨T3, F3⟩ := zwf' (ms := zMlf) (b := 22) (v := .int (s ||| (Int32.ofInt (1) <<< (x &&& 31)))) (V := zFull) T2 (X2 a 20 ha0) he (by omega) (zFull_ok _) (by decide +kernel) (by decide +kernel)
          have he3 := zset_eq (e := .inr (9, fs.set 22 (.int (s ||| (Int32.ofInt (1) <<< (x &&& 31)))))) he
          have q22 : (fs.set 22 (.int (s ||| (Int32.ofInt (1) <<< (x &&& 31)))))[22]? = some (.int (s ||| (Int32.ofInt (1) <<< (x &&& 31)))) := List.getElem?_set_self (by omega)
          have q21 : (fs.set 22 (.int (s ||| (Int32.ofInt (1) <<< (x &&& 31)))))[21]? = some (.ref wc) := by rw [List.getElem?_set_ne (by decide)]; exact k3
          have hl3 : (fs.set 22 (.int (s ||| (Int32.ofInt (1) <<< (x &&& 31))))).length = 23 := by rw [List.length_set]; exact hl
          refine zh_put zJ_285 (b := 22) (c := 9) (z := 0) rfl (k' := 25) rfl he (by omega) rfl ?_
          have hwc := zfd2 (b := 21) (u := 32) T2 (X2 a 20 ha0) he (by omega) (by decide +kernel)
          have hwc : ty2[wc]? = some 32 := by
            obtain ⟨w9, e9, h9⟩ := hwc
            rw [k3] at e9
            cases e9
            exact h9
          have nac : a ≠ wc := fun e => by have q := X2 a 20 ha0; rw [e, hwc] at q; cases q
          have k43 := (zset_ne (h := h2) (e := .inr (9, fs.set 22 (.int (s ||| (Int32.ofInt (1) <<< (x &&& 31)))))) nac).trans k4
          generalize fs.set 22 (.int (s ||| (Int32.ofInt (1) <<< (x &&& 31)))) = gs at T3 F3 he3 hl3 q22 q21 k43 ⊢
          generalize h2.set a (.inr (9, gs)) = h3 at T3 F3 he3 k43 ⊢
          obtain ⟨wb, hb1, hb2⟩ := zfd2 (b := 20) (u := 31) T3 (X2 a 20 ha0) he3 (by omega) (by decide +kernel)
          obtain ⟨fb, hfb⟩ := zcell1 (n := 6) T3 hb2 rfl rfl
          obtain ⟨fc, hfc⟩ := zcell1 (n := 6) T3 hwc rfl rfl
          rw [hfc] at k43
          have k43 := Option.some.inj k43
          subst k43
          refine zh zJ_285 (i := (2, 0, 0, 0)) rfl rfl (k' := 26) (lo' := [(3, .int x), (0, .ref a), (1, .int hr), (2, .int v)]) (st' := [.ref a]) (h' := h3) rfl ?_
          refine zh_get zJ_285 (a := a) (b := 20) (c := 9) (z := 0) rfl (k' := 27) rfl he3 hb1 ?_
          refine zh zJ_285 (i := (1, 3, 0, 0)) rfl rfl (k' := 28) (lo' := [(3, .int x), (0, .ref a), (1, .int hr), (2, .int v)]) (st' := [.int x, .ref wb]) (h' := h3) rfl ?_
          refine zh zJ_285 (i := (1, 1, 0, 0)) rfl rfl (k' := 29) (lo' := [(3, .int x), (0, .ref a), (1, .int hr), (2, .int v)]) (st' := [.int hr, .int x, .ref wb]) (h' := h3) rfl ?_
          obtain ⟨T4, F4⟩ := zwr (ms := zMlf) T3 hb2 hfb (i := x.toNatClampNeg) (x := hr) (by rw [znat hi]; omega) (zst_ok (a := (0, 0, 23)) (ilo := 0) (ihi := 5) (by decide +kernel) ⟨hr, rfl, r1, r2⟩ (by omega) (by rw [znat hi]; omega)) (zcv_ok (lo := 0) (hi := 5) (by decide +kernel) (by omega) (by rw [znat hi]; omega))
          have nab : wb ≠ a := fun e => by have q := X2 a 20 ha0; rw [← e, hb2] at q; cases q
          have nbc : wb ≠ wc := fun e => by have q := hwc; rw [← e, hb2] at q; cases q
          have he4 := (zset_ne (h := h3) (e := .inl (0, (6, .inl (upd fb x.toNatClampNeg hr)))) nab).trans he3
          have hfc4 := (zset_ne (h := h3) (e := .inl (0, (6, .inl (upd fb x.toNatClampNeg hr)))) nbc).trans hfc
          refine zh_iast zJ_285 (z := 0) rfl (k' := 30) rfl hfb (by omega) (by omega) ?_
          generalize h3.set wb (.inl (0, (6, .inl (upd fb x.toNatClampNeg hr)))) = h4 at T4 F4 he4 hfc4 ⊢
          refine zh zJ_285 (i := (2, 0, 0, 0)) rfl rfl (k' := 31) (lo' := [(3, .int x), (0, .ref a), (1, .int hr), (2, .int v)]) (st' := [.ref a]) (h' := h4) rfl ?_
          refine zh_get zJ_285 (a := a) (b := 21) (c := 9) (z := 0) rfl (k' := 32) rfl he4 q21 ?_
          refine zh zJ_285 (i := (1, 3, 0, 0)) rfl rfl (k' := 33) (lo' := [(3, .int x), (0, .ref a), (1, .int hr), (2, .int v)]) (st' := [.int x, .ref wc]) (h' := h4) rfl ?_
          refine zh zJ_285 (i := (1, 2, 0, 0)) rfl rfl (k' := 34) (lo' := [(3, .int x), (0, .ref a), (1, .int hr), (2, .int v)]) (st' := [.int v, .int x, .ref wc]) (h' := h4) rfl ?_
          have vb : -1 ≤ v.toInt ∧ v.toInt ≤ 5 := by rcases V with q | q <;> omega
          obtain ⟨T5, F5⟩ := zwr (ms := zMlf) T4 hwc hfc4 (i := x.toNatClampNeg) (x := v) (by rw [znat hi]; omega) (zst_ok (a := (0, -1, 5)) (ilo := 0) (ihi := 5) (by decide +kernel) ⟨v, rfl, vb.1, vb.2⟩ (by omega) (by rw [znat hi]; omega)) (zcv_ok (lo := 0) (hi := 5) (by decide +kernel) (by omega) (by rw [znat hi]; omega))
          have he5 := (zset_ne (h := h4) (e := .inl (0, (6, .inl (upd fc x.toNatClampNeg v)))) nac.symm).trans he4
          have hfc5 := zset_eq (e := .inl (0, (6, .inl (upd fc x.toNatClampNeg v)))) hfc4
          refine zh_iast zJ_285 (z := 0) rfl (k' := 35) rfl hfc4 (by omega) (by omega) ?_
          generalize h4.set wc (.inl (0, (6, .inl (upd fc x.toNatClampNeg v)))) = h5 at T5 F5 he5 hfc5 ⊢
          have G5 : zFm zMlf ty0 h0 h5 := ((G2.tr X2 F3).tr X2 F4).tr X2 F5
          have E5 : zE1 ty2 h5 := zE1_stable (ms := zMlf) (by decide +kernel) ty2 h2 h5 T2 T5 (T2.len T5) ((F3.tr zExt.rf F4).tr zExt.rf F5) E2
          have hfcf : ∀ i, i < 6 → fc i = cf i := fun i hi => by
            have q := k5 i hi
            rw [z_rd0, if_pos hi] at q
            exact Value.int.inj (Option.some.inj q)
          have S5 : zSe h5 a (s ||| (Int32.ofInt (1) <<< (x &&& 31))) (upd cf x.toInt.toNat v) := ⟨_, _, wc, he5, q22, q21, hfc5, fun i9 hi9 => by
            rw [z_rd0, if_pos hi9]
            unfold upd
            rw [show x.toNatClampNeg = x.toInt.toNat from rfl, hfcf i9 hi9]⟩
          have C5 : zChn (s ||| (Int32.ofInt (1) <<< (x &&& 31))) (upd cf x.toInt.toNat v) := zChn_add C (by omega) hx6 hnb V
          have hb5 := (zbit_or (s := s) (f := x) C.1.1 C.1.2 (by omega) hx6).2
          have V5 : v.toInt = -1 ∨ (0 ≤ v.toInt ∧ v.toInt < 6 ∧ zbit (s ||| (Int32.ofInt (1) <<< (x &&& 31))) v = true) := V.imp id (fun q => ⟨q.1, q.2.1, (hb5 v q.1 q.2.1).mpr (Or.inr q.2.2)⟩)
          have B5 : zbit (s ||| (Int32.ofInt (1) <<< (x &&& 31))) x = true := (hb5 x (by omega) hx6).mpr (Or.inl rfl)
          generalize s ||| (Int32.ofInt (1) <<< (x &&& 31)) = s5 at q22 S5 C5 V5 B5
          obtain ⟨wg, hg1, hg2⟩ := zfd2 (b := 19) (u := 30) T5 (X2 a 20 ha0) he5 (by omega) (by decide +kernel)
          obtain ⟨fg, hfg⟩ := zcell1 (n := 6) T5 hg2 rfl rfl
          refine zh zJ_285 (i := (2, 0, 0, 0)) rfl rfl (k' := 36) (lo' := [(3, .int x), (0, .ref a), (1, .int hr), (2, .int v)]) (st' := [.ref a]) (h' := h5) rfl ?_
          refine zh_get zJ_285 (a := a) (b := 19) (c := 9) (z := 0) rfl (k' := 37) rfl he5 hg1 ?_
          refine zh zJ_285 (i := (1, 3, 0, 0)) rfl rfl (k' := 38) (lo' := [(3, .int x), (0, .ref a), (1, .int hr), (2, .int v)]) (st' := [.int x, .ref wg]) (h' := h5) rfl ?_
          refine zh_iald zJ_285 (z := 0) rfl (k' := 39) rfl hfg (by omega) (by omega) ?_
          refine zh zJ_285 (i := (2, 0, 0, 0)) rfl rfl (k' := 40) (lo' := [(3, .int x), (0, .ref a), (1, .int hr), (2, .int v)]) (st' := [.ref a, .int (fg x.toNatClampNeg)]) (h' := h5) rfl ?_
          refine zh zJ_285 (i := (1, 3, 0, 0)) rfl rfl (k' := 41) (lo' := [(3, .int x), (0, .ref a), (1, .int hr), (2, .int v)]) (st' := [.int x, .ref a, .int (fg x.toNatClampNeg)]) (h' := h5) rfl ?_
          refine zh_con zJ_285 (i := (54, 243, 1, 9)) (rest := [.int (fg x.toNatClampNeg)]) (as := [.ref a, .int x]) rfl (by decide) (zcal54 (xs := [.int x]) (by omega) rfl rfl he5 rfl (Nat.le_of_ble_eq_true rfl) (M' := z_m243) rfl (Nat.le_of_ble_eq_true rfl)) (zck_ok (zE1_stable (by decide +kernel)) H zK_shr) rfl (by show 10 + 1 ≤ d; omega) rfl ⟨rfl, rfl⟩ T5 E5 ⟨⟨_, 20, rfl, X2 a 20 ha0, Int.le_refl _, Int.le_refl _⟩, ⟨x, rfl, by omega, by omega⟩, trivial⟩ (fun ty6 h6 v6 Y6 T6 E6 F6 R6 => ?_)
          obtain ⟨u6, rfl, sh, rfl, -, -⟩ := zRt1 R6
          have X6 := X2.tr Y6
          have S6 := S5.keep T5 (X2 a 20 ha0) F6 (fun _ _ _ => zno20 rfl) (fun _ => zno20 rfl)
          have G6 : zFm zMlf ty0 h0 h6 := G5.tr X2 (F6.mono (fun _ _ q => absurd q (zno20 rfl)))
          show z_ok sx d 285 42 [(3, .int x), (0, .ref a), (1, .int hr), (2, .int v)] [.int sh, .int (fg x.toNatClampNeg)] h6 _
          refine zh_icmp zJ_285 (a := 45) (b := 3) (z := 0) rfl (fun hc => ?_) (fun hc => ?_)
          · refine zh zJ_285 (i := (7, 3, 0, 1)) rfl rfl (k' := 46) (lo' := [(3, .int (x + Int32.ofInt (1))), (0, .ref a), (1, .int hr), (2, .int v)]) (st' := []) (h' := h6) rfl ?_
            refine zh zJ_285 (i := (30, 2, 0, 0)) rfl rfl (k' := 2) (lo' := [(3, .int (x + Int32.ofInt (1))), (0, .ref a), (1, .int hr), (2, .int v)]) (st' := []) (h' := h6) rfl ?_
            exact ih ty6 h6 (i + 1) _ s5 _ X6 T6 E6 G6 (zinc hi (by omega)) (by omega) (by omega) S6 C5 V5
          · refine zh zJ_285 (i := (1, 3, 0, 0)) rfl rfl (k' := 44) (lo' := [(3, .int x), (0, .ref a), (1, .int hr), (2, .int v)]) (st' := [.int x]) (h' := h6) rfl ?_
            refine zh_iret zJ_285 (a := 0) (b := 0) (z := 0) rfl (Or.inl rfl) ?_
            exact ⟨rfl, rfl, ty6, _, s5, _, X6, T6, E6, G6, rfl, S6, C5, Or.inr ⟨by omega, hx6, B5⟩⟩
        · refine zh zJ_285 (i := (30, 45, 0, 0)) rfl rfl (k' := 45) (lo' := [(3, .int x), (0, .ref a), (1, .int hr), (2, .int v)]) (st' := []) (h' := h2) rfl ?_
          refine zh zJ_285 (i := (7, 3, 0, 1)) rfl rfl (k' := 46) (lo' := [(3, .int (x + Int32.ofInt (1))), (0, .ref a), (1, .int hr), (2, .int v)]) (st' := []) (h' := h2) rfl ?_
          refine zh zJ_285 (i := (30, 2, 0, 0)) rfl rfl (k' := 2) (lo' := [(3, .int (x + Int32.ofInt (1))), (0, .ref a), (1, .int hr), (2, .int v)]) (st' := []) (h' := h2) rfl ?_
          exact ih ty2 h2 (i + 1) _ s cf X2 T2 E2 G2 (zinc hi (by omega)) (by omega) (by omega) S2 C V
