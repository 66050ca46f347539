section
/-! looksFor by hand; printed with wip/gen/gen_looks.py -/
noncomputable def zMlf : List zMod := [(20, 22, 22), (31, 0, 5), (32, 0, 5)]
noncomputable def zPlf (ty0 : List Nat) (h0 : zH) (a : Nat) : zO → zH → Nat → Nat → Prop := fun o h' x y => x = 0 ∧ y = 0 ∧ ∃ (ty' : List Nat) (r s' : Int32) (cf' : Nat → Int32), zExt ty0 ty' ∧ zTY z_tt ty' h' ∧ zE1 ty' h' ∧ zFm zMlf ty0 h0 h' ∧ o = .inl (some (.int r)) ∧ zSe h' a s' cf' ∧ zChn s' cf' ∧ (r.toInt = -1 ∨ (0 ≤ r.toInt ∧ r.toInt < 6 ∧ zbit s' r = true))
theorem zno20 {ms : List zMod} (h : ms = []) {t i : Nat} : ¬ zIn ms t i := by
  subst h
  rintro ⟨m, hm, -⟩
  cases hm
set_option maxRecDepth 100000 in
theorem zLp_285 {sx : zX} {d a : Nat} {ty0 : List Nat} {h0 : zH} {hr v : Int32} (hd : 14 ≤ d) (H : ∀ c, c < 240 → ∀ c', zCtl[c]? = some c' → zVd z_tt zE1 c') (ha0 : ty0[a]? = some 20) (r1 : 0 ≤ hr.toInt) (r2 : hr.toInt ≤ 23) : ∀ (rm : Nat) (ty : List Nat) (h : zH) (i : Nat) (x s : Int32) (cf : Nat → Int32), zExt ty0 ty → zTY z_tt ty h → zE1 ty h → zFm zMlf ty0 h0 h → x.toInt = (i : Int) → i + rm = 7 → zSe h a s cf → zChn s cf → (v.toInt = -1 ∨ (0 ≤ v.toInt ∧ v.toInt < 6 ∧ zbit s v = true)) → z_ok sx d 285 2 [(3, .int x), (0, .ref a), (1, .int hr), (2, .int v)] [] h (zPlf ty0 h0 a)
  | rm, ty, h, i, x, s, cf, X, T, E, F, hi, hrm, S, C, V => by
    have ih : ∀ (ty : List Nat) (h : zH) (i : Nat) (x s : Int32) (cf : Nat → Int32), zExt ty0 ty → zTY z_tt ty h → zE1 ty h → zFm zMlf ty0 h0 h → x.toInt = (i : Int) → i + (rm - 1) = 7 → 0 < rm → zSe h a s cf → zChn s cf → (v.toInt = -1 ∨ (0 ≤ v.toInt ∧ v.toInt < 6 ∧ zbit s v = true)) → z_ok sx d 285 2 [(3, .int x), (0, .ref a), (1, .int hr), (2, .int v)] [] h (zPlf ty0 h0 a) := fun ty h i x s cf b1 b2 b3 b4 b5 b6 b7 b8 b9 b10 => by
      cases rm with
      | zero => omega
      | succ rm => exact zLp_285 hd H ha0 r1 r2 rm ty h i x s cf b1 b2 b3 b4 b5 b6 b8 b9 b10
    refine zh zJ_285 (i := (1, 3, 0, 0)) rfl rfl (k' := 3) (lo' := [(3, .int x), (0, .ref a), (1, .int hr), (2, .int v)]) (st' := [.int x]) (h' := h) rfl ?_
    refine zh zJ_285 (i := (2, 0, 0, 0)) rfl rfl (k' := 4) (lo' := [(3, .int x), (0, .ref a), (1, .int hr), (2, .int v)]) (st' := [.ref a, .int x]) (h' := h) rfl ?_
    obtain ⟨fs0, he0, hl0⟩ := zcell0 (c := 9) (n := 23) T (X a 20 ha0) rfl rfl rfl
    refine zh_con zJ_285 (i := (54, 184, 0, 9)) (rest := [.int x]) (as := [.ref a]) rfl (by decide) (zcal54 (xs := []) (by omega) rfl rfl he0 rfl (Nat.le_of_ble_eq_true rfl) (M' := z_m184) rfl (Nat.le_of_ble_eq_true rfl)) (zck_ok (zE1_stable (by decide +kernel)) H zK_fam) rfl (by show 2 + 1 ≤ d; omega) rfl ⟨rfl, rfl⟩ T E ⟨⟨_, 20, rfl, X a 20 ha0, Int.le_refl _, Int.le_refl _⟩, trivial⟩ (fun ty1 h1 v1 Y1 T1 E1 F1 R1 => ?_)
    obtain ⟨u1, rfl, c, rfl, c1, c2⟩ := zRt1 R1
    have X1 := X.tr Y1
    have S1 := S.keep T (X a 20 ha0) F1 (fun _ _ _ => zno20 rfl) (fun _ => zno20 rfl)
    have G1 : zFm zMlf ty0 h0 h1 := F.tr X (F1.mono (fun _ _ q => absurd q (zno20 rfl)))
    show z_ok sx d 285 5 [(3, .int x), (0, .ref a), (1, .int hr), (2, .int v)] [.int c, .int x] h1 _
    refine zh_icmp zJ_285 (a := 47) (b := 3) (z := 0) rfl (fun hc => ?_) (fun hc => ?_)
    · refine zh zJ_285 (i := (0, 0, 0, -1)) rfl rfl (k' := 48) (lo' := [(3, .int x), (0, .ref a), (1, .int hr), (2, .int v)]) (st' := [.int (Int32.ofInt (-1))]) (h' := h1) rfl ?_
      refine zh_iret zJ_285 (a := 0) (b := 0) (z := 0) rfl (Or.inl rfl) ?_
      exact ⟨rfl, rfl, ty1, _, s, cf, X1, T1, E1, G1, rfl, S1, C, Or.inl rfl⟩
    · have hx6 : x.toInt < 6 := by
        have : ¬ c.toInt ≤ x.toInt := fun e => hc (zcmp_ge.mpr e)
        omega
      obtain ⟨fs, he, hl⟩ := zcell0 (c := 9) (n := 23) T1 (X1 a 20 ha0) rfl rfl rfl
      obtain ⟨e1, ec1, wc, k1, k2, k3, k4, k5⟩ := id S1
      rw [he] at k1
      cases k1
      have k2 : fs[22]? = some (.int s) := k2
      have k3 : fs[21]? = some (.ref wc) := k3
      refine zh zJ_285 (i := (2, 0, 0, 0)) rfl rfl (k' := 7) (lo' := [(3, .int x), (0, .ref a), (1, .int hr), (2, .int v)]) (st' := [.ref a]) (h' := h1) rfl ?_
      refine zh_get zJ_285 (a := a) (b := 22) (c := 9) (z := 0) rfl (k' := 8) rfl he k2 ?_
      refine zh zJ_285 (i := (1, 3, 0, 0)) rfl rfl (k' := 9) (lo' := [(3, .int x), (0, .ref a), (1, .int hr), (2, .int v)]) (st' := [.int x, .int s]) (h' := h1) rfl ?_
      refine zh_run zJ_285 (i := (55, 178, 2, 0)) (rest := []) (as := [.int s, .int x]) rfl (by decide) (zcal55 (xs := [.int x, .int s]) (by omega) rfl rfl (Nat.le_of_ble_eq_true rfl) (M' := z_m178) rfl (Nat.le_of_ble_eq_true rfl)) zR_178 (fun o h' x9 y9 q => ?_)
      obtain ⟨rfl, rfl, rfl, rfl⟩ := q
      refine ⟨_, rfl, rfl, rfl, ?_⟩
      show z_ok sx d 285 10 [(3, .int x), (0, .ref a), (1, .int hr), (2, .int v)] [.int (if zbit s x = true then 1 else 0)] h' _
      refine zh_if zJ_285 (a := 45) (b := 1) (z := 0) rfl (fun hc => ?_) (fun hc => ?_)
      · refine zh zJ_285 (i := (7, 3, 0, 1)) rfl rfl (k' := 46) (lo' := [(3, .int (x + Int32.ofInt (1))), (0, .ref a), (1, .int hr), (2, .int v)]) (st' := []) (h' := h') rfl ?_
        refine zh zJ_285 (i := (30, 2, 0, 0)) rfl rfl (k' := 2) (lo' := [(3, .int (x + Int32.ofInt (1))), (0, .ref a), (1, .int hr), (2, .int v)]) (st' := []) (h' := h') rfl ?_
        exact ih ty1 h' (i + 1) _ s cf X1 T1 E1 G1 (zinc hi (by omega)) (by omega) (by omega) S1 C V
      · have hnb : ¬ zbit s x = true := fun e => hc (by rw [if_pos e]; exact zcmp_ne.mpr (by decide))
        refine zh zJ_285 (i := (2, 0, 0, 0)) rfl rfl (k' := 12) (lo' := [(3, .int x), (0, .ref a), (1, .int hr), (2, .int v)]) (st' := [.ref a]) (h' := h') rfl ?_
        refine zh zJ_285 (i := (1, 3, 0, 0)) rfl rfl (k' := 13) (lo' := [(3, .int x), (0, .ref a), (1, .int hr), (2, .int v)]) (st' := [.int x, .ref a]) (h' := h') rfl ?_
        refine zh zJ_285 (i := (1, 1, 0, 0)) rfl rfl (k' := 14) (lo' := [(3, .int x), (0, .ref a), (1, .int hr), (2, .int v)]) (st' := [.int hr, .int x, .ref a]) (h' := h') rfl ?_
        refine zh_con zJ_285 (i := (54, 191, 2, 9)) (rest := []) (as := [.ref a, .int x, .int hr]) rfl (by decide) (zcal54 (xs := [.int hr, .int x]) (by omega) rfl rfl he rfl (Nat.le_of_ble_eq_true rfl) (M' := z_m191) rfl (Nat.le_of_ble_eq_true rfl)) (zck_ok (zE1_stable (by decide +kernel)) H zK_wsh) rfl (by show 6 + 1 ≤ d; omega) rfl ⟨rfl, rfl⟩ T1 E1 ⟨⟨_, 20, rfl, X1 a 20 ha0, Int.le_refl _, Int.le_refl _⟩, ⟨x, rfl, by omega, by omega⟩, ⟨hr, rfl, r1, r2⟩, trivial⟩ (fun ty2 h2 v2 Y2 T2 E2 F2 R2 => ?_)
        obtain ⟨u2, rfl, wv, rfl, -, -⟩ := zRt1 R2
        have X2 := X1.tr Y2
        have S2 := S1.keep T1 (X1 a 20 ha0) F2 (fun _ _ _ => zno20 rfl) (fun _ => zno20 rfl)
        have G2 : zFm zMlf ty0 h0 h2 := G1.tr X1 (F2.mono (fun _ _ q => absurd q (zno20 rfl)))
        show z_ok sx d 285 15 [(3, .int x), (0, .ref a), (1, .int hr), (2, .int v)] [.int wv] h2 _
        refine zh_if zJ_285 (a := 17) (b := 1) (z := 0) rfl (fun hc => ?_) (fun hc => ?_)
        · obtain ⟨fs, he, hl⟩ := zcell0 (c := 9) (n := 23) T2 (X2 a 20 ha0) rfl rfl rfl
          obtain ⟨e1, ec1, wc, k1, k2, k3, k4, k5⟩ := id S2
          rw [he] at k1
          cases k1
          have k2 : fs[22]? = some (.int s) := k2
          have k3 : fs[21]? = some (.ref wc) := k3
          refine zh zJ_285 (i := (2, 0, 0, 0)) rfl rfl (k' := 18) (lo' := [(3, .int x), (0, .ref a), (1, .int hr), (2, .int v)]) (st' := [.ref a]) (h' := h2) rfl ?_
          refine zh zJ_285 (i := (27, 0, 0, 0)) rfl rfl (k' := 19) (lo' := [(3, .int x), (0, .ref a), (1, .int hr), (2, .int v)]) (st' := [.ref a, .ref a]) (h' := h2) rfl ?_
          refine zh_get zJ_285 (a := a) (b := 22) (c := 9) (z := 0) rfl (k' := 20) rfl he k2 ?_
          refine zh zJ_285 (i := (0, 0, 0, 1)) rfl rfl (k' := 21) (lo' := [(3, .int x), (0, .ref a), (1, .int hr), (2, .int v)]) (st' := [.int (Int32.ofInt (1)), .int s, .ref a]) (h' := h2) rfl ?_
          refine zh zJ_285 (i := (1, 3, 0, 0)) rfl rfl (k' := 22) (lo' := [(3, .int x), (0, .ref a), (1, .int hr), (2, .int v)]) (st' := [.int x, .int (Int32.ofInt (1)), .int s, .ref a]) (h' := h2) rfl ?_
          refine zh zJ_285 (i := (13, 0, 0, 0)) rfl rfl (k' := 23) (lo' := [(3, .int x), (0, .ref a), (1, .int hr), (2, .int v)]) (st' := [.int ((Int32.ofInt (1)) <<< (x &&& 31)), .int s, .ref a]) (h' := h2) rfl ?_
          refine zh zJ_285 (i := (17, 0, 0, 0)) rfl rfl (k' := 24) (lo' := [(3, .int x), (0, .ref a), (1, .int hr), (2, .int v)]) (st' := [.int (s ||| ((Int32.ofInt (1)) <<< (x &&& 31))), .ref a]) (h' := h2) rfl ?_
          obtain ⟨T3, F3⟩ := zwf' (ms := zMlf) (b := 22) (v := .int (s ||| (Int32.ofInt (1) <<< (x &&& 31)))) (V := zFull) T2 (X2 a 20 ha0) he (by omega) (zFull_ok _) (by decide +kernel) (by decide +kernel)
          have he3 := zset_eq (e := .inr (9, fs.set 22 (.int (s ||| (Int32.ofInt (1) <<< (x &&& 31)))))) he
          have q22 : (fs.set 22 (.int (s ||| (Int32.ofInt (1) <<< (x &&& 31)))))[22]? = some (.int (s ||| (Int32.ofInt (1) <<< (x &&& 31)))) := List.getElem?_set_self (by omega)
          have q21 : (fs.set 22 (.int (s ||| (Int32.ofInt (1) <<< (x &&& 31)))))[21]? = some (.ref wc) := by rw [List.getElem?_set_ne (by decide)]; exact k3
          have hl3 : (fs.set 22 (.int (s ||| (Int32.ofInt (1) <<< (x &&& 31))))).length = 23 := by rw [List.length_set]; exact hl
          refine zh_put zJ_285 (b := 22) (c := 9) (z := 0) rfl (k' := 25) rfl he (by omega) rfl ?_
          have hwc := zfd2 (b := 21) (u := 32) T2 (X2 a 20 ha0) he (by omega) (by decide +kernel)
          have hwc : ty2[wc]? = some 32 := by
            obtain ⟨w9, e9, h9⟩ := hwc
            rw [k3] at e9
            cases e9
            exact h9
          have nac : a ≠ wc := fun e => by have q := X2 a 20 ha0; rw [e, hwc] at q; cases q
          have k43 := (zset_ne (h := h2) (e := .inr (9, fs.set 22 (.int (s ||| (Int32.ofInt (1) <<< (x &&& 31)))))) nac).trans k4
          generalize fs.set 22 (.int (s ||| (Int32.ofInt (1) <<< (x &&& 31)))) = gs at T3 F3 he3 hl3 q22 q21 k43 ⊢
          generalize h2.set a (.inr (9, gs)) = h3 at T3 F3 he3 k43 ⊢
          obtain ⟨wb, hb1, hb2⟩ := zfd2 (b := 20) (u := 31) T3 (X2 a 20 ha0) he3 (by omega) (by decide +kernel)
          obtain ⟨fb, hfb⟩ := zcell1 (n := 6) T3 hb2 rfl rfl
          obtain ⟨fc, hfc⟩ := zcell1 (n := 6) T3 hwc rfl rfl
          rw [hfc] at k43
          have k43 := Option.some.inj k43
          subst k43
          refine zh zJ_285 (i := (2, 0, 0, 0)) rfl rfl (k' := 26) (lo' := [(3, .int x), (0, .ref a), (1, .int hr), (2, .int v)]) (st' := [.ref a]) (h' := h3) rfl ?_
          refine zh_get zJ_285 (a := a) (b := 20) (c := 9) (z := 0) rfl (k' := 27) rfl he3 hb1 ?_
          refine zh zJ_285 (i := (1, 3, 0, 0)) rfl rfl (k' := 28) (lo' := [(3, .int x), (0, .ref a), (1, .int hr), (2, .int v)]) (st' := [.int x, .ref wb]) (h' := h3) rfl ?_
          refine zh zJ_285 (i := (1, 1, 0, 0)) rfl rfl (k' := 29) (lo' := [(3, .int x), (0, .ref a), (1, .int hr), (2, .int v)]) (st' := [.int hr, .int x, .ref wb]) (h' := h3) rfl ?_
          obtain ⟨T4, F4⟩ := zwr (ms := zMlf) T3 hb2 hfb (i := x.toNatClampNeg) (x := hr) (by rw [znat hi]; omega) (zst_ok (a := (0, 0, 23)) (ilo := 0) (ihi := 5) (by decide +kernel) ⟨hr, rfl, r1, r2⟩ (by omega) (by rw [znat hi]; omega)) (zcv_ok (lo := 0) (hi := 5) (by decide +kernel) (by omega) (by rw [znat hi]; omega))
          have nab : wb ≠ a := fun e => by have q := X2 a 20 ha0; rw [← e, hb2] at q; cases q
          have nbc : wb ≠ wc := fun e => by have q := hwc; rw [← e, hb2] at q; cases q
          have he4 := (zset_ne (h := h3) (e := .inl (0, (6, .inl (upd fb x.toNatClampNeg hr)))) nab).trans he3
          have hfc4 := (zset_ne (h := h3) (e := .inl (0, (6, .inl (upd fb x.toNatClampNeg hr)))) nbc).trans hfc
          refine zh_iast zJ_285 (z := 0) rfl (k' := 30) rfl hfb (by omega) (by omega) ?_
          generalize h3.set wb (.inl (0, (6, .inl (upd fb x.toNatClampNeg hr)))) = h4 at T4 F4 he4 hfc4 ⊢
          refine zh zJ_285 (i := (2, 0, 0, 0)) rfl rfl (k' := 31) (lo' := [(3, .int x), (0, .ref a), (1, .int hr), (2, .int v)]) (st' := [.ref a]) (h' := h4) rfl ?_
          refine zh_get zJ_285 (a := a) (b := 21) (c := 9) (z := 0) rfl (k' := 32) rfl he4 q21 ?_
          refine zh zJ_285 (i := (1, 3, 0, 0)) rfl rfl (k' := 33) (lo' := [(3, .int x), (0, .ref a), (1, .int hr), (2, .int v)]) (st' := [.int x, .ref wc]) (h' := h4) rfl ?_
          refine zh zJ_285 (i := (1, 2, 0, 0)) rfl rfl (k' := 34) (lo' := [(3, .int x), (0, .ref a), (1, .int hr), (2, .int v)]) (st' := [.int v, .int x, .ref wc]) (h' := h4) rfl ?_
          have vb : -1 ≤ v.toInt ∧ v.toInt ≤ 5 := by rcases V with q | q <;> omega
          obtain ⟨T5, F5⟩ := zwr (ms := zMlf) T4 hwc hfc4 (i := x.toNatClampNeg) (x := v) (by rw [znat hi]; omega) (zst_ok (a := (0, -1, 5)) (ilo := 0) (ihi := 5) (by decide +kernel) ⟨v, rfl, vb.1, vb.2⟩ (by omega) (by rw [znat hi]; omega)) (zcv_ok (lo := 0) (hi := 5) (by decide +kernel) (by omega) (by rw [znat hi]; omega))
          have he5 := (zset_ne (h := h4) (e := .inl (0, (6, .inl (upd fc x.toNatClampNeg v)))) nac.symm).trans he4
          have hfc5 := zset_eq (e := .inl (0, (6, .inl (upd fc x.toNatClampNeg v)))) hfc4
          refine zh_iast zJ_285 (z := 0) rfl (k' := 35) rfl hfc4 (by omega) (by omega) ?_
          generalize h4.set wc (.inl (0, (6, .inl (upd fc x.toNatClampNeg v)))) = h5 at T5 F5 he5 hfc5 ⊢
          have G5 : zFm zMlf ty0 h0 h5 := ((G2.tr X2 F3).tr X2 F4).tr X2 F5
          have E5 : zE1 ty2 h5 := zE1_stable (ms := zMlf) (by decide +kernel) ty2 h2 h5 T2 T5 (T2.len T5) ((F3.tr zExt.rf F4).tr zExt.rf F5) E2
          have hfcf : ∀ i, i < 6 → fc i = cf i := fun i hi => by
            have q := k5 i hi
            rw [z_rd0, if_pos hi] at q
            exact Value.int.inj (Option.some.inj q)
          have S5 : zSe h5 a (s ||| (Int32.ofInt (1) <<< (x &&& 31))) (upd cf x.toInt.toNat v) := ⟨_, _, wc, he5, q22, q21, hfc5, fun i9 hi9 => by
            rw [z_rd0, if_pos hi9]
            unfold upd
            rw [show x.toNatClampNeg = x.toInt.toNat from rfl, hfcf i9 hi9]⟩
          have C5 : zChn (s ||| (Int32.ofInt (1) <<< (x &&& 31))) (upd cf x.toInt.toNat v) := zChn_add C (by omega) hx6 hnb V
          have hb5 := (zbit_or (s := s) (f := x) C.1.1 C.1.2 (by omega) hx6).2
          have V5 : v.toInt = -1 ∨ (0 ≤ v.toInt ∧ v.toInt < 6 ∧ zbit (s ||| (Int32.ofInt (1) <<< (x &&& 31))) v = true) := V.imp id (fun q => ⟨q.1, q.2.1, (hb5 v q.1 q.2.1).mpr (Or.inr q.2.2)⟩)
          have B5 : zbit (s ||| (Int32.ofInt (1) <<< (x &&& 31))) x = true := (hb5 x (by omega) hx6).mpr (Or.inl rfl)
          generalize s ||| (Int32.ofInt (1) <<< (x &&& 31)) = s5 at q22 S5 C5 V5 B5
          obtain ⟨wg, hg1, hg2⟩ := zfd2 (b := 19) (u := 30) T5 (X2 a 20 ha0) he5 (by omega) (by decide +kernel)
          obtain ⟨fg, hfg⟩ := zcell1 (n := 6) T5 hg2 rfl rfl
          refine zh zJ_285 (i := (2, 0, 0, 0)) rfl rfl (k' := 36) (lo' := [(3, .int x), (0, .ref a), (1, .int hr), (2, .int v)]) (st' := [.ref a]) (h' := h5) rfl ?_
          refine zh_get zJ_285 (a := a) (b := 19) (c := 9) (z := 0) rfl (k' := 37) rfl he5 hg1 ?_
          refine zh zJ_285 (i := (1, 3, 0, 0)) rfl rfl (k' := 38) (lo' := [(3, .int x), (0, .ref a), (1, .int hr), (2, .int v)]) (st' := [.int x, .ref wg]) (h' := h5) rfl ?_
          refine zh_iald zJ_285 (z := 0) rfl (k' := 39) rfl hfg (by omega) (by omega) ?_
          refine zh zJ_285 (i := (2, 0, 0, 0)) rfl rfl (k' := 40) (lo' := [(3, .int x), (0, .ref a), (1, .int hr), (2, .int v)]) (st' := [.ref a, .int (fg x.toNatClampNeg)]) (h' := h5) rfl ?_
          refine zh zJ_285 (i := (1, 3, 0, 0)) rfl rfl (k' := 41) (lo' := [(3, .int x), (0, .ref a), (1, .int hr), (2, .int v)]) (st' := [.int x, .ref a, .int (fg x.toNatClampNeg)]) (h' := h5) rfl ?_
          refine zh_con zJ_285 (i := (54, 243, 1, 9)) (rest := [.int (fg x.toNatClampNeg)]) (as := [.ref a, .int x]) rfl (by decide) (zcal54 (xs := [.int x]) (by omega) rfl rfl he5 rfl (Nat.le_of_ble_eq_true rfl) (M' := z_m243) rfl (Nat.le_of_ble_eq_true rfl)) (zck_ok (zE1_stable (by decide +kernel)) H zK_shr) rfl (by show 10 + 1 ≤ d; omega) rfl ⟨rfl, rfl⟩ T5 E5 ⟨⟨_, 20, rfl, X2 a 20 ha0, Int.le_refl _, Int.le_refl _⟩, ⟨x, rfl, by omega, by omega⟩, trivial⟩ (fun ty6 h6 v6 Y6 T6 E6 F6 R6 => ?_)
          obtain ⟨u6, rfl, sh, rfl, -, -⟩ := zRt1 R6
          have X6 := X2.tr Y6
          have S6 := S5.keep T5 (X2 a 20 ha0) F6 (fun _ _ _ => zno20 rfl) (fun _ => zno20 rfl)
          have G6 : zFm zMlf ty0 h0 h6 := G5.tr X2 (F6.mono (fun _ _ q => absurd q (zno20 rfl)))
          show z_ok sx d 285 42 [(3, .int x), (0, .ref a), (1, .int hr), (2, .int v)] [.int sh, .int (fg x.toNatClampNeg)] h6 _
          refine zh_icmp zJ_285 (a := 45) (b := 3) (z := 0) rfl (fun hc => ?_) (fun hc => ?_)
          · refine zh zJ_285 (i := (7, 3, 0, 1)) rfl rfl (k' := 46) (lo' := [(3, .int (x + Int32.ofInt (1))), (0, .ref a), (1, .int hr), (2, .int v)]) (st' := []) (h' := h6) rfl ?_
            refine zh zJ_285 (i := (30, 2, 0, 0)) rfl rfl (k' := 2) (lo' := [(3, .int (x + Int32.ofInt (1))), (0, .ref a), (1, .int hr), (2, .int v)]) (st' := []) (h' := h6) rfl ?_
            exact ih ty6 h6 (i + 1) _ s5 _ X6 T6 E6 G6 (zinc hi (by omega)) (by omega) (by omega) S6 C5 V5
          · refine zh zJ_285 (i := (1, 3, 0, 0)) rfl rfl (k' := 44) (lo' := [(3, .int x), (0, .ref a), (1, .int hr), (2, .int v)]) (st' := [.int x]) (h' := h6) rfl ?_
            refine zh_iret zJ_285 (a := 0) (b := 0) (z := 0) rfl (Or.inl rfl) ?_
            exact ⟨rfl, rfl, ty6, _, s5, _, X6, T6, E6, G6, rfl, S6, C5, Or.inr ⟨by omega, hx6, B5⟩⟩
        · refine zh zJ_285 (i := (30, 45, 0, 0)) rfl rfl (k' := 45) (lo' := [(3, .int x), (0, .ref a), (1, .int hr), (2, .int v)]) (st' := []) (h' := h2) rfl ?_
          refine zh zJ_285 (i := (7, 3, 0, 1)) rfl rfl (k' := 46) (lo' := [(3, .int (x + Int32.ofInt (1))), (0, .ref a), (1, .int hr), (2, .int v)]) (st' := []) (h' := h2) rfl ?_
          refine zh zJ_285 (i := (30, 2, 0, 0)) rfl rfl (k' := 2) (lo' := [(3, .int (x + Int32.ofInt (1))), (0, .ref a), (1, .int hr), (2, .int v)]) (st' := []) (h' := h2) rfl ?_
          exact ih ty2 h2 (i + 1) _ s cf X2 T2 E2 G2 (zinc hi (by omega)) (by omega) (by omega) S2 C V
end
section
/-! looksFor from its entry -/
set_option maxRecDepth 100000 in
theorem zR_285 {sx : zX} {d a : Nat} {ty : List Nat} {h : zH} {hr v s : Int32} {cf : Nat → Int32} (hd : 14 ≤ d) (H : ∀ c, c < 240 → ∀ c', zCtl[c]? = some c' → zVd z_tt zE1 c') (ha : ty[a]? = some 20) (r1 : 0 ≤ hr.toInt) (r2 : hr.toInt ≤ 23) (T : zTY z_tt ty h) (E : zE1 ty h) (S : zSe h a s cf) (C : zChn s cf) (V : v.toInt = -1 ∨ (0 ≤ v.toInt ∧ v.toInt < 6 ∧ zbit s v = true)) : z_ok sx d 285 0 [(0, .ref a), (1, .int hr), (2, .int v)] [] h (zPlf ty h a) := by
  refine zh zJ_285 (i := (0, 0, 0, 0)) rfl rfl (k' := 1) (lo' := [(0, .ref a), (1, .int hr), (2, .int v)]) (st' := [.int (Int32.ofInt 0)]) (h' := h) rfl ?_
  refine zh zJ_285 (i := (4, 3, 0, 0)) rfl rfl (k' := 2) (lo' := [(3, .int (Int32.ofInt 0)), (0, .ref a), (1, .int hr), (2, .int v)]) (st' := []) (h' := h) rfl ?_
  exact zLp_285 hd H ha r1 r2 7 ty h 0 _ s cf zExt.rf T E zFm.rf rfl rfl S C V
set_option maxRecDepth 100000 in
theorem zLp_287 {sx : zX} {d a : Nat} {ty ty0 : List Nat} {h0 : zH} {s : Int32} {cf : Nat → Int32} {rk : Int → Nat} (X : zExt ty0 ty) (ha : ty[a]? = some 20) (K : ∀ g : Int32, 0 ≤ g.toInt → g.toInt < 6 → zbit s g = true → ((cf g.toInt.toNat).toInt = -1 ∨ (0 ≤ (cf g.toInt.toNat).toInt ∧ (cf g.toInt.toNat).toInt < 6 ∧ zbit s (cf g.toInt.toNat) = true ∧ rk (cf g.toInt.toNat).toInt < rk g.toInt))) : ∀ (m : Nat) (h : zH) (lo : zL) (f : Int32), zTY z_tt ty h → zE1 ty h → zFm (zcM zC240) ty0 h0 h → zSe h a s cf → z_get lo 0 = some (.ref a) → z_get lo 2 = some (.int f) → (f.toInt = -1 ∨ (0 ≤ f.toInt ∧ f.toInt < 6 ∧ zbit s f = true ∧ rk f.toInt < m)) → z_ok sx d 287 17 lo [] h (zPo z_tt zE1 zC240 ty0 h0)
  | m, h, lo, f, T, E, F, S, g0, g2, V => by
    refine zh_ild zJ_287 (a := 2) (b := 0) (z := 0) rfl (k' := 18) rfl g2 ?_
    refine zh zJ_287 (i := (0, 0, 0, -1)) rfl rfl (k' := 19) (lo' := lo) (st' := [.int (Int32.ofInt (-1)), .int f]) (h' := h) rfl ?_
    refine zh_icmp zJ_287 (a := 36) (b := 0) (z := 0) rfl (fun hc => ?_) (fun hc => ?_)
    · refine zh zJ_287 (i := (0, 0, 0, 1)) rfl rfl (k' := 37) (lo' := lo) (st' := [.int (Int32.ofInt (1))]) (h' := h) rfl ?_
      refine zh_iret zJ_287 (a := 0) (b := 0) (z := 0) rfl (Or.inr ⟨rfl, Or.inr rfl⟩) ?_
      exact ⟨ty, X, T, E, F, ⟨_, rfl, by decide, by decide⟩, Nat.le_refl _, Nat.le_refl _⟩
    · have hne : f.toInt ≠ -1 := fun e => hc (zcmp_eq.mpr (by rw [e]; rfl))
      obtain ⟨f1, f2, fb, fr⟩ := V.resolve_left hne
      obtain ⟨fs, he, hl⟩ := zcell0 (c := 9) (n := 23) T ha rfl rfl rfl
      obtain ⟨e1, ec1, wc, k1, k2, k3, k4, k5⟩ := id S
      rw [he] at k1
      cases k1
      have k3 : fs[21]? = some (.ref wc) := k3
      have hwc : ty[wc]? = some 32 := by
        obtain ⟨w9, e9, h9⟩ := zfd2 (b := 21) (u := 32) T ha he (by omega) (by decide +kernel)
        rw [k3] at e9
        cases e9
        exact h9
      obtain ⟨wb, hb1, hb2⟩ := zfd2 (b := 20) (u := 31) T ha he (by omega) (by decide +kernel)
      obtain ⟨fby, hfb⟩ := zcell1 (n := 6) T hb2 rfl rfl
      obtain ⟨wd, hd1, hd2⟩ := zfd2 (b := 18) (u := 29) T ha he (by omega) (by decide +kernel)
      obtain ⟨fd, hfd⟩ := zcell1 (n := 24) T hd2 rfl rfl
      have fn : f.toNatClampNeg = f.toInt.toNat := rfl
      have hby := zint (zel (A := (0, 0, 23)) (lo := 0) (hi := 5) (i := f.toNatClampNeg) T hb2 hfb (by omega) (by decide +kernel) (by omega) (by omega))
      refine zh_ald zJ_287 (a := 0) (b := 0) (z := 0) rfl (k' := 21) rfl g0 ?_
      refine zh_get zJ_287 (b := 20) (c := 9) (z := 0) rfl (k' := 22) rfl he hb1 ?_
      refine zh_ild zJ_287 (a := 2) (b := 0) (z := 0) rfl (k' := 23) rfl g2 ?_
      refine zh_iald zJ_287 (z := 0) rfl (k' := 24) rfl hfb f1 (by omega) ?_
      generalize fby f.toNatClampNeg = hb at hby ⊢
      refine zh_ist zJ_287 (a := 3) (b := 0) (z := 0) rfl (k' := 25) rfl ?_
      have j0 := zget_set1_ne (a := 3) (v := .int hb) g0 (by decide) rfl
      have j2 := zget_set1_ne (a := 3) (v := .int hb) g2 (by decide) rfl
      refine zh_ald zJ_287 (a := 0) (b := 0) (z := 0) rfl (k' := 26) rfl j0 ?_
      refine zh_get zJ_287 (b := 18) (c := 9) (z := 0) rfl (k' := 27) rfl he hd1 ?_
      refine zh_ild zJ_287 (a := 3) (b := 0) (z := 0) rfl (k' := 28) rfl zget_self ?_
      refine zh_ild zJ_287 (a := 2) (b := 0) (z := 0) rfl (k' := 29) rfl j2 ?_
      have hbn : hb.toNatClampNeg = hb.toInt.toNat := rfl
      obtain ⟨T2, F2⟩ := zwr (ms := [(29, 0, 23)]) T hd2 hfd (i := hb.toNatClampNeg) (x := f) (by omega) (zst_ok (a := (0, -1, 5)) (ilo := 0) (ihi := 23) (by decide +kernel) ⟨f, rfl, by omega, by omega⟩ (by omega) (by omega)) (zcv_ok (lo := 0) (hi := 23) (by decide +kernel) (by omega) (by omega))
      have E2 := zE1_stable (ms := [(29, 0, 23)]) (by decide +kernel) ty h _ T T2 (T.len T2) F2 E
      have nda : wd ≠ a := fun e => by rw [e, ha] at hd2; cases hd2
      have ndc : wd ≠ wc := fun e => by rw [e, hwc] at hd2; cases hd2
      have S2 := S.keep T ha F2 (fun i _ _ ⟨q, hq, q1, _⟩ => by rw [List.mem_singleton.mp hq] at q1; cases q1) (fun i ⟨q, hq, q1, _⟩ => by rw [List.mem_singleton.mp hq] at q1; cases q1)
      have he2 := (zset_ne (h := h) (e := .inl (0, (24, .inl (upd fd hb.toNatClampNeg f)))) nda).trans he
      have k42 := (zset_ne (h := h) (e := .inl (0, (24, .inl (upd fd hb.toNatClampNeg f)))) ndc).trans k4
      have G2 : zFm (zcM zC240) ty0 h0 (h.set wd (.inl (0, (24, .inl (upd fd hb.toNatClampNeg f))))) := F.tr X (F2.mono (fun t i ⟨q, hq, q1⟩ => ⟨q, by rw [List.mem_singleton.mp hq]; decide +kernel, q1⟩))
      refine zh_iast zJ_287 (z := 0) rfl (k' := 30) rfl hfd (by omega) (by omega) ?_
      generalize h.set wd (.inl (0, (24, .inl (upd fd hb.toNatClampNeg f)))) = h2 at T2 F2 E2 S2 he2 k42 G2 ⊢
      obtain ⟨fc, hfc⟩ := zcell1 (n := 6) T2 hwc rfl rfl
      rw [hfc] at k42
      have k42 := Option.some.inj k42
      subst k42
      have ecf : fc f.toNatClampNeg = cf f.toInt.toNat := by
        have q := k5 f.toInt.toNat (by omega)
        rw [z_rd0, if_pos (by omega)] at q
        exact Value.int.inj (Option.some.inj q)
      refine zh_ald zJ_287 (a := 0) (b := 0) (z := 0) rfl (k' := 31) rfl j0 ?_
      refine zh_get zJ_287 (b := 21) (c := 9) (z := 0) rfl (k' := 32) rfl he2 k3 ?_
      refine zh_ild zJ_287 (a := 2) (b := 0) (z := 0) rfl (k' := 33) rfl j2 ?_
      refine zh_iald zJ_287 (z := 0) rfl (k' := 34) rfl hfc f1 (by omega) ?_
      rw [ecf]
      refine zh_ist zJ_287 (a := 2) (b := 0) (z := 0) rfl (k' := 35) rfl ?_
      refine zh zJ_287 (i := (30, 17, 0, 0)) rfl rfl (k' := 17) (lo' := z_set1 (z_set1 lo 3 (.int hb)) 2 (.int (cf f.toInt.toNat))) (st' := []) (h' := h2) rfl ?_
      cases m with
      | zero => omega
      | succ m =>
        refine zLp_287 X ha K m h2 _ _ T2 E2 G2 S2 (zget_set1_ne j0 (by decide) rfl) zget_self ?_
        rcases K f f1 f2 fb with q | ⟨q1, q2, q3, q4⟩
        · exact Or.inl q
        · exact Or.inr ⟨q1, q2, q3, by omega⟩
end
section
/-! findsRoom: its inner loop -/
noncomputable def zIv (ty0 : List Nat) (h0 : zH) (a : Nat) (ty : List Nat) (h : zH) (lo : zL) (s : Int32) (cf : Nat → Int32) (r : Int32) : Prop := zExt ty0 ty ∧ zTY z_tt ty h ∧ zE1 ty h ∧ zFm zMlf ty0 h0 h ∧ zSe h a s cf ∧ zChn s cf ∧ z_get lo 0 = some (.ref a) ∧ z_get lo 2 = some (.int r) ∧ (r.toInt = -1 ∨ (0 ≤ r.toInt ∧ r.toInt < 6 ∧ zbit s r = true))
set_option maxRecDepth 100000 in
theorem zLi_286 {sx : zX} {d a : Nat} {ty0 : List Nat} {h0 : zH} {x3 : Int32} {Ψ : zO → zH → Nat → Nat → Prop} (hd : 15 ≤ d) (H : ∀ c, c < 240 → ∀ c', zCtl[c]? = some c' → zVd z_tt zE1 c') (ha0 : ty0[a]? = some 20) (kk : ∀ (ty : List Nat) (h : zH) (lo : zL) (s : Int32) (cf : Nat → Int32) (r : Int32), zIv ty0 h0 a ty h lo s cf r → z_get lo 3 = some (.int x3) → z_ok sx d 286 48 lo [] h Ψ) : ∀ (m : Nat) (ty : List Nat) (h : zH) (lo : zL) (s : Int32) (cf : Nat → Int32) (r x4 : Int32) (i : Nat), zIv ty0 h0 a ty h lo s cf r → z_get lo 3 = some (.int x3) → z_get lo 4 = some (.int x4) → x4.toInt = (i : Int) → i + m = 24 → z_ok sx d 286 18 lo [] h Ψ
  | m, ty, h, lo, s, cf, r, x4, i, I, g3, g4, e4, hm => by
    obtain ⟨X, T, E, F, S, C, g0, g2, V⟩ := id I
    have ih : ∀ (ty : List Nat) (h : zH) (lo : zL) (s : Int32) (cf : Nat → Int32) (r : Int32), zIv ty0 h0 a ty h lo s cf r → z_get lo 3 = some (.int x3) → z_get lo 4 = some (.int x4) → 0 < m → z_ok sx d 286 46 lo [] h Ψ := fun ty h lo s cf r I g3 g4 h0m => by
      obtain ⟨b1, b2, b3, b4, b5, b6, b7, b8, b9⟩ := I
      refine zh_iinc zJ_286 (a := 4) (b := 0) (z := 1) rfl (k' := 47) rfl g4 ?_
      refine zh zJ_286 (i := (30, 18, 0, 0)) rfl rfl (k' := 18) (lo' := z_set1 lo 4 (.int (x4 + Int32.ofInt 1))) (st' := []) (h' := h) rfl ?_
      cases m with
      | zero => omega
      | succ m => exact zLi_286 hd H ha0 kk m ty h _ s cf r _ (i + 1) ⟨b1, b2, b3, b4, b5, b6, zget_set1_ne b7 (by decide) rfl, zget_set1_ne b8 (by decide) rfl, b9⟩ (zget_set1_ne g3 (by decide) rfl) zget_self (zinc e4 (by omega)) (by omega)
    refine zh_ild zJ_286 (a := 4) (b := 0) (z := 0) rfl (k' := 19) rfl g4 ?_
    refine zh zJ_286 (i := (0, 0, 0, 24)) rfl rfl (k' := 20) (lo' := lo) (st' := [.int (Int32.ofInt (24)), .int x4]) (h' := h) rfl ?_
    refine zh_icmp zJ_286 (a := 48) (b := 3) (z := 0) rfl (fun _ => kk ty h lo s cf r I g3) (fun hc => ?_)
    have h24 : x4.toInt < 24 := by
      have : ¬ (Int32.ofInt (24)).toInt ≤ x4.toInt := fun e => hc (zcmp_ge.mpr e)
      rw [show (Int32.ofInt (24)).toInt = 24 from rfl] at this
      omega
    refine zh_ild zJ_286 (a := 2) (b := 0) (z := 0) rfl (k' := 22) rfl g2 ?_
    refine zh zJ_286 (i := (0, 0, 0, -1)) rfl rfl (k' := 23) (lo' := lo) (st' := [.int (Int32.ofInt (-1)), .int r]) (h' := h) rfl ?_
    refine zh_icmp zJ_286 (a := 48) (b := 1) (z := 0) rfl (fun _ => kk ty h lo s cf r I g3) (fun hc2 => ?_)
    obtain ⟨fs, he, hl⟩ := zcell0 (c := 9) (n := 23) T (X a 20 ha0) rfl rfl rfl
    obtain ⟨e1, ec1, wc, k1, k2, k3, k4, k5⟩ := id S
    rw [he] at k1
    cases k1
    have k2 : fs[22]? = some (.int s) := k2
    obtain ⟨wd, hd1, hd2⟩ := zfd2 (b := 18) (u := 29) T (X a 20 ha0) he (by omega) (by decide +kernel)
    obtain ⟨fd, hfd⟩ := zcell1 (n := 24) T hd2 rfl rfl
    have hg := zint (zel (A := (0, -1, 5)) (lo := 0) (hi := 23) (i := x4.toNatClampNeg) T hd2 hfd (by rw [znat e4]; omega) (by decide +kernel) (by omega) (by rw [znat e4]; omega))
    refine zh_ald zJ_286 (a := 0) (b := 0) (z := 0) rfl (k' := 25) rfl g0 ?_
    refine zh_get zJ_286 (b := 18) (c := 9) (z := 0) rfl (k' := 26) rfl he hd1 ?_
    refine zh_ild zJ_286 (a := 4) (b := 0) (z := 0) rfl (k' := 27) rfl g4 ?_
    refine zh_iald zJ_286 (z := 0) rfl (k' := 28) rfl hfd (by omega) (by omega) ?_
    refine zh zJ_286 (i := (0, 0, 0, -1)) rfl rfl (k' := 29) (lo' := lo) (st' := [.int (Int32.ofInt (-1)), .int (fd x4.toNatClampNeg)]) (h' := h) rfl ?_
    refine zh_icmp zJ_286 (a := 46) (b := 0) (z := 0) rfl (fun _ => ih ty h lo s cf r I g3 g4 (by omega)) (fun hc3 => ?_)
    have hne : (fd x4.toNatClampNeg).toInt ≠ -1 := fun e => hc3 (zcmp_eq.mpr (by rw [e]; rfl))
    refine zh_ald zJ_286 (a := 0) (b := 0) (z := 0) rfl (k' := 31) rfl g0 ?_
    refine zh_get zJ_286 (b := 22) (c := 9) (z := 0) rfl (k' := 32) rfl he k2 ?_
    refine zh_ald zJ_286 (a := 0) (b := 0) (z := 0) rfl (k' := 33) rfl g0 ?_
    refine zh_get zJ_286 (b := 18) (c := 9) (z := 0) rfl (k' := 34) rfl he hd1 ?_
    refine zh_ild zJ_286 (a := 4) (b := 0) (z := 0) rfl (k' := 35) rfl g4 ?_
    refine zh_iald zJ_286 (z := 0) rfl (k' := 36) rfl hfd (by omega) (by omega) ?_
    refine zh_run zJ_286 (i := (55, 178, 2, 0)) (rest := []) (as := [.int s, .int (fd x4.toNatClampNeg)]) rfl (by decide) (zcal55 (xs := [.int (fd x4.toNatClampNeg), .int s]) (by omega) rfl rfl (Nat.le_of_ble_eq_true rfl) (M' := z_m178) rfl (Nat.le_of_ble_eq_true rfl)) zR_178 (fun o h' x9 y9 q => ?_)
    obtain ⟨rfl, rfl, rfl, rfl⟩ := q
    refine ⟨_, rfl, rfl, rfl, ?_⟩
    show z_ok sx d 286 37 lo [.int (if zbit s (fd x4.toNatClampNeg) = true then 1 else 0)] h' _
    refine zh_if zJ_286 (a := 46) (b := 0) (z := 0) rfl (fun _ => ih ty h' lo s cf r I g3 g4 (by omega)) (fun hc4 => ?_)
    have hbt : zbit s (fd x4.toNatClampNeg) = true := by
      by_cases e : zbit s (fd x4.toNatClampNeg) = true
      · exact e
      · exact absurd (by rw [if_neg e]; exact zcmp_eq.mpr rfl) hc4
    refine zh_ald zJ_286 (a := 0) (b := 0) (z := 0) rfl (k' := 39) rfl g0 ?_
    refine zh_ild zJ_286 (a := 4) (b := 0) (z := 0) rfl (k' := 40) rfl g4 ?_
    refine zh_ald zJ_286 (a := 0) (b := 0) (z := 0) rfl (k' := 41) rfl g0 ?_
    refine zh_get zJ_286 (b := 18) (c := 9) (z := 0) rfl (k' := 42) rfl he hd1 ?_
    refine zh_ild zJ_286 (a := 4) (b := 0) (z := 0) rfl (k' := 43) rfl g4 ?_
    refine zh_iald zJ_286 (z := 0) rfl (k' := 44) rfl hfd (by omega) (by omega) ?_
    refine zh_run zJ_286 (i := (54, 285, 2, 9)) (rest := []) (as := [.ref a, .int x4, .int (fd x4.toNatClampNeg)]) rfl (by decide) (zcal54 (xs := [.int (fd x4.toNatClampNeg), .int x4]) (by omega) rfl rfl he rfl (Nat.le_of_ble_eq_true rfl) (M' := z_m285) rfl (Nat.le_of_ble_eq_true rfl)) (zR_285 (by omega) H (X a 20 ha0) (by omega) (by omega) T E S C (Or.inr ⟨by omega, by omega, hbt⟩)) (fun o h2 x9 y9 q => ?_)
    obtain ⟨rfl, rfl, ty2, r2, s2, cf2, q1, q2, q3, q4, rfl, q6, q7, q8⟩ := q
    refine ⟨_, rfl, rfl, rfl, ?_⟩
    show z_ok sx d 286 45 lo [.int r2] h2 _
    refine zh_ist zJ_286 (a := 2) (b := 0) (z := 0) rfl (k' := 46) rfl ?_
    exact ih ty2 h2 _ s2 cf2 r2 ⟨X.tr q1, q2, q3, F.tr X q4, q6, q7, zget_set1_ne g0 (by decide) rfl, zget_self, q8⟩ (zget_set1_ne g3 (by decide) rfl) (zget_set1_ne g4 (by decide) rfl) (by omega)
end
section
/-! findsRoom -/
set_option maxRecDepth 100000 in
theorem zLo_286 {sx : zX} {d a : Nat} {ty0 : List Nat} {h0 : zH} (hd : 15 ≤ d) (H : ∀ c, c < 240 → ∀ c', zCtl[c]? = some c' → zVd z_tt zE1 c') (ha0 : ty0[a]? = some 20) : ∀ (m : Nat) (ty : List Nat) (h : zH) (lo : zL) (s : Int32) (cf : Nat → Int32) (r x3 : Int32) (i : Nat), zIv ty0 h0 a ty h lo s cf r → z_get lo 3 = some (.int x3) → x3.toInt = (i : Int) → i + m = 6 → z_ok sx d 286 10 lo [] h (zPlf ty0 h0 a)
  | m, ty, h, lo, s, cf, r, x3, i, I, g3, e3, hm => by
    obtain ⟨X, T, E, F, S, C, g0, g2, V⟩ := id I
    have h50 : z_ok sx d 286 50 lo [] h (zPlf ty0 h0 a) := by
      refine zh_ild zJ_286 (a := 2) (b := 0) (z := 0) rfl (k' := 51) rfl g2 ?_
      refine zh_iret zJ_286 (a := 0) (b := 0) (z := 0) rfl (Or.inl rfl) ?_
      exact ⟨rfl, rfl, ty, r, s, cf, X, T, E, F, rfl, S, C, V⟩
    refine zh_ild zJ_286 (a := 3) (b := 0) (z := 0) rfl (k' := 11) rfl g3 ?_
    refine zh zJ_286 (i := (0, 0, 0, 6)) rfl rfl (k' := 12) (lo' := lo) (st' := [.int (Int32.ofInt (6)), .int x3]) (h' := h) rfl ?_
    refine zh_icmp zJ_286 (a := 50) (b := 3) (z := 0) rfl (fun _ => h50) (fun hc => ?_)
    have h6 : x3.toInt < 6 := by
      have : ¬ (Int32.ofInt (6)).toInt ≤ x3.toInt := fun e => hc (zcmp_ge.mpr e)
      rw [show (Int32.ofInt (6)).toInt = 6 from rfl] at this
      omega
    refine zh_ild zJ_286 (a := 2) (b := 0) (z := 0) rfl (k' := 14) rfl g2 ?_
    refine zh zJ_286 (i := (0, 0, 0, -1)) rfl rfl (k' := 15) (lo' := lo) (st' := [.int (Int32.ofInt (-1)), .int r]) (h' := h) rfl ?_
    refine zh_icmp zJ_286 (a := 50) (b := 1) (z := 0) rfl (fun _ => h50) (fun hc2 => ?_)
    refine zh zJ_286 (i := (0, 0, 0, 0)) rfl rfl (k' := 17) (lo' := lo) (st' := [.int (Int32.ofInt (0))]) (h' := h) rfl ?_
    refine zh_ist zJ_286 (a := 4) (b := 0) (z := 0) rfl (k' := 18) rfl ?_
    refine zLi_286 (x3 := x3) hd H ha0 (fun ty9 h9 lo9 s9 cf9 r9 I9 g39 => ?_) 24 ty h _ s cf r (Int32.ofInt (0)) 0 ⟨X, T, E, F, S, C, zget_set1_ne g0 (by decide) rfl, zget_set1_ne g2 (by decide) rfl, V⟩ (zget_set1_ne g3 (by decide) rfl) zget_self rfl rfl
    obtain ⟨b1, b2, b3, b4, b5, b6, b7, b8, b9⟩ := I9
    refine zh_iinc zJ_286 (a := 3) (b := 0) (z := 1) rfl (k' := 49) rfl g39 ?_
    refine zh zJ_286 (i := (30, 10, 0, 0)) rfl rfl (k' := 10) (lo' := z_set1 lo9 3 (.int (x3 + Int32.ofInt 1))) (st' := []) (h' := h9) rfl ?_
    cases m with
    | zero => omega
    | succ m => exact zLo_286 hd H ha0 m ty9 h9 _ s9 cf9 r9 _ (i + 1) ⟨b1, b2, b3, b4, b5, b6, zget_set1_ne b7 (by decide) rfl, zget_set1_ne b8 (by decide) rfl, b9⟩ zget_self (zinc e3 (by omega)) (by omega)
set_option maxRecDepth 100000 in
theorem zR_286 {sx : zX} {d a : Nat} {ty : List Nat} {h : zH} {hr : Int32} (hd : 15 ≤ d) (H : ∀ c, c < 240 → ∀ c', zCtl[c]? = some c' → zVd z_tt zE1 c') (ha : ty[a]? = some 20) (r1 : 0 ≤ hr.toInt) (r2 : hr.toInt ≤ 23) (T : zTY z_tt ty h) (E : zE1 ty h) : z_ok sx d 286 0 [(0, .ref a), (1, .int hr)] [] h (zPlf ty h a) := by
  obtain ⟨fs, he, hl⟩ := zcell0 (c := 9) (n := 23) T ha rfl rfl rfl
  obtain ⟨wc, hc1, hc2⟩ := zfd2 (b := 21) (u := 32) T ha he (by omega) (by decide +kernel)
  obtain ⟨cf, hcf⟩ := zcell1 (n := 6) T hc2 rfl rfl
  obtain ⟨T1, F1⟩ := zwf' (ms := zMlf) (b := 22) (v := .int (Int32.ofInt (0))) (V := zFull) T ha he (by omega) (zFull_ok _) (by decide +kernel) (by decide +kernel)
  have E1 := zE1_stable (ms := zMlf) (by decide +kernel) ty h _ T T1 (T.len T1) F1 E
  have he1 := zset_eq (e := .inr (9, fs.set 22 (.int (Int32.ofInt (0))))) he
  have nac : a ≠ wc := fun e => by rw [e, hc2] at ha; cases ha
  have hcf1 := (zset_ne (h := h) (e := .inr (9, fs.set 22 (.int (Int32.ofInt (0))))) nac).trans hcf
  have S1 : zSe (h.set a (.inr (9, fs.set 22 (.int (Int32.ofInt (0)))))) a 0 cf := ⟨_, _, wc, he1, List.getElem?_set_self (by omega), (List.getElem?_set_ne (by decide)).trans hc1, hcf1, fun i hi => by rw [z_rd0, if_pos hi]⟩
  refine zh zJ_286 (i := (2, 0, 0, 0)) rfl rfl (k' := 1) (lo' := [(0, .ref a), (1, .int hr)]) (st' := [.ref a]) (h' := h) rfl ?_
  refine zh zJ_286 (i := (0, 0, 0, 0)) rfl rfl (k' := 2) (lo' := [(0, .ref a), (1, .int hr)]) (st' := [.int (Int32.ofInt (0)), .ref a]) (h' := h) rfl ?_
  refine zh_put zJ_286 (b := 22) (c := 9) (z := 0) rfl (k' := 3) rfl he (by omega) rfl ?_
  generalize h.set a (.inr (9, fs.set 22 (.int (Int32.ofInt (0))))) = h1 at T1 F1 E1 he1 S1 ⊢
  refine zh zJ_286 (i := (2, 0, 0, 0)) rfl rfl (k' := 4) (lo' := [(0, .ref a), (1, .int hr)]) (st' := [.ref a]) (h' := h1) rfl ?_
  refine zh zJ_286 (i := (1, 1, 0, 0)) rfl rfl (k' := 5) (lo' := [(0, .ref a), (1, .int hr)]) (st' := [.int hr, .ref a]) (h' := h1) rfl ?_
  refine zh zJ_286 (i := (0, 0, 0, -1)) rfl rfl (k' := 6) (lo' := [(0, .ref a), (1, .int hr)]) (st' := [.int (Int32.ofInt (-1)), .int hr, .ref a]) (h' := h1) rfl ?_
  refine zh_run zJ_286 (i := (54, 285, 2, 9)) (rest := []) (as := [.ref a, .int hr, .int (Int32.ofInt (-1))]) rfl (by decide) (zcal54 (xs := [.int (Int32.ofInt (-1)), .int hr]) (by omega) rfl rfl he1 rfl (Nat.le_of_ble_eq_true rfl) (M' := z_m285) rfl (Nat.le_of_ble_eq_true rfl)) (zR_285 (by omega) H ha r1 r2 T1 E1 S1 (zChn_0 cf) (Or.inl rfl)) (fun o h2 x9 y9 q => ?_)
  obtain ⟨rfl, rfl, ty2, r, s2, cf2, q1, q2, q3, q4, rfl, q6, q7, q8⟩ := q
  refine ⟨_, rfl, rfl, rfl, ?_⟩
  show z_ok sx d 286 7 [(0, .ref a), (1, .int hr)] [.int r] h2 _
  refine zh zJ_286 (i := (4, 2, 0, 0)) rfl rfl (k' := 8) (lo' := [(2, .int r), (0, .ref a), (1, .int hr)]) (st' := []) (h' := h2) rfl ?_
  refine zh zJ_286 (i := (0, 0, 0, 0)) rfl rfl (k' := 9) (lo' := [(2, .int r), (0, .ref a), (1, .int hr)]) (st' := [.int (Int32.ofInt (0))]) (h' := h2) rfl ?_
  refine zh zJ_286 (i := (4, 3, 0, 0)) rfl rfl (k' := 10) (lo' := [(3, .int (Int32.ofInt (0))), (2, .int r), (0, .ref a), (1, .int hr)]) (st' := []) (h' := h2) rfl ?_
  exact zLo_286 hd H ha 6 ty2 h2 _ s2 cf2 r _ 0 ⟨q1, q2, q3, F1.tr zExt.rf q4, q6, q7, rfl, rfl, q8⟩ rfl rfl rfl
end
section
/-! isDealt -/
set_option maxRecDepth 100000 in
theorem zV_240 (H : ∀ c, c < 240 → ∀ c', zCtl[c]? = some c' → zVd z_tt zE1 c') : zVd z_tt zE1 zC240 := by
  intro sx d ty h as hd T E hA
  have hd : 20 ≤ d := hd
  match as, hA with
  | [v0, v1], hA =>
  obtain ⟨⟨a, t, rfl, ha, t1, t2⟩, ⟨hr, rfl, r1, r2⟩, -⟩ := hA
  have et : t = 20 := by omega
  subst et
  show z_ok sx d 287 0 [(0, .ref a), (1, .int hr)] [] h _
  obtain ⟨fs0, he0, hl0⟩ := zcell0 (c := 9) (n := 23) T ha rfl rfl rfl
  refine zh zJ_287 (i := (2, 0, 0, 0)) rfl rfl (k' := 1) (lo' := [(0, .ref a), (1, .int hr)]) (st' := [.ref a]) (h' := h) rfl ?_
  refine zh zJ_287 (i := (1, 1, 0, 0)) rfl rfl (k' := 2) (lo' := [(0, .ref a), (1, .int hr)]) (st' := [.int hr, .ref a]) (h' := h) rfl ?_
  refine zh_run zJ_287 (i := (54, 286, 1, 9)) (rest := []) (as := [.ref a, .int hr]) rfl (by decide) (zcal54 (xs := [.int hr]) (by omega) rfl rfl he0 rfl (Nat.le_of_ble_eq_true rfl) (M' := z_m286) rfl (Nat.le_of_ble_eq_true rfl)) (zR_286 (by omega) H ha r1 r2 T E) (fun o h2 x9 y9 q => ?_)
  obtain ⟨rfl, rfl, ty2, r, s, cf, X, T2, E2, F2, rfl, S2, C2, V2⟩ := q
  refine ⟨_, rfl, rfl, rfl, ?_⟩
  have G2 : zFm (zcM zC240) ty h h2 := F2.mono (fun t i ⟨q, hq, q1⟩ => by
    have hs : ∀ q ∈ zMlf, q ∈ zcM zC240 := by decide +kernel
    exact ⟨q, hs q hq, q1⟩)
  have hret : ∀ v : Int32, 0 ≤ v.toInt → v.toInt ≤ 1 → zPo z_tt zE1 zC240 ty h (.inl (some (.int v))) h2 0 0 := fun v b1 b2 => ⟨ty2, X, T2, E2, G2, ⟨v, rfl, b1, b2⟩, Nat.le_refl _, Nat.le_refl _⟩
  show z_ok sx d 287 3 [(0, .ref a), (1, .int hr)] [.int r] h2 _
  refine zh zJ_287 (i := (4, 2, 0, 0)) rfl rfl (k' := 4) (lo' := [(2, .int r), (0, .ref a), (1, .int hr)]) (st' := []) (h' := h2) rfl ?_
  refine zh zJ_287 (i := (1, 2, 0, 0)) rfl rfl (k' := 5) (lo' := [(2, .int r), (0, .ref a), (1, .int hr)]) (st' := [.int r]) (h' := h2) rfl ?_
  refine zh zJ_287 (i := (0, 0, 0, -1)) rfl rfl (k' := 6) (lo' := [(2, .int r), (0, .ref a), (1, .int hr)]) (st' := [.int (Int32.ofInt (-1)), .int r]) (h' := h2) rfl ?_
  refine zh_icmp zJ_287 (a := 9) (b := 1) (z := 0) rfl (fun hc => ?_) (fun hc => ?_)
  · have hne : r.toInt ≠ -1 := fun e => zcmp_ne.mp hc (by rw [e]; rfl)
    obtain ⟨f1, f2, fb⟩ := V2.resolve_left hne
    obtain ⟨fs, he, hl⟩ := zcell0 (c := 9) (n := 23) T2 (X a 20 ha) rfl rfl rfl
    obtain ⟨wg, hg1, hg2⟩ := zfd2 (b := 19) (u := 30) T2 (X a 20 ha) he (by omega) (by decide +kernel)
    obtain ⟨fg, hfg⟩ := zcell1 (n := 6) T2 hg2 rfl rfl
    have rn : r.toNatClampNeg = r.toInt.toNat := rfl
    refine zh zJ_287 (i := (2, 0, 0, 0)) rfl rfl (k' := 10) (lo' := [(2, .int r), (0, .ref a), (1, .int hr)]) (st' := [.ref a]) (h' := h2) rfl ?_
    refine zh_get zJ_287 (b := 19) (c := 9) (z := 0) rfl (k' := 11) rfl he hg1 ?_
    refine zh zJ_287 (i := (1, 2, 0, 0)) rfl rfl (k' := 12) (lo' := [(2, .int r), (0, .ref a), (1, .int hr)]) (st' := [.int r, .ref wg]) (h' := h2) rfl ?_
    refine zh zJ_287 (i := (28, 0, 0, 0)) rfl rfl (k' := 13) (lo' := [(2, .int r), (0, .ref a), (1, .int hr)]) (st' := [.int r, .ref wg, .int r, .ref wg]) (h' := h2) rfl ?_
    refine zh_iald zJ_287 (z := 0) rfl (k' := 14) rfl hfg f1 (by omega) ?_
    refine zh zJ_287 (i := (0, 0, 0, 1)) rfl rfl (k' := 15) (lo' := [(2, .int r), (0, .ref a), (1, .int hr)]) (st' := [.int (Int32.ofInt (1)), .int (fg r.toNatClampNeg), .int r, .ref wg]) (h' := h2) rfl ?_
    refine zh zJ_287 (i := (8, 0, 0, 0)) rfl rfl (k' := 16) (lo' := [(2, .int r), (0, .ref a), (1, .int hr)]) (st' := [.int (fg r.toNatClampNeg + Int32.ofInt (1)), .int r, .ref wg]) (h' := h2) rfl ?_
    obtain ⟨T3, F3⟩ := zwr (ms := [(30, 0, 5)]) T2 hg2 hfg (i := r.toNatClampNeg) (x := fg r.toNatClampNeg + Int32.ofInt (1)) (by omega) (zst_ok (a := zFull) (ilo := 0) (ihi := 5) (by decide +kernel) (zFull_ok _) (by omega) (by omega)) (zcv_ok (lo := 0) (hi := 5) (by decide +kernel) (by omega) (by omega))
    have E3 := zE1_stable (ms := [(30, 0, 5)]) (by decide +kernel) ty2 h2 _ T2 T3 (T2.len T3) F3 E2
    have S3 := S2.keep T2 (X a 20 ha) F3 (fun i _ _ ⟨q, hq, q1, _⟩ => by rw [List.mem_singleton.mp hq] at q1; cases q1) (fun i ⟨q, hq, q1, _⟩ => by rw [List.mem_singleton.mp hq] at q1; cases q1)
    have G3 := G2.tr X (F3.mono (ms' := zcM zC240) (fun t i ⟨q, hq, q1⟩ => ⟨q, by rw [List.mem_singleton.mp hq]; decide +kernel, q1⟩))
    refine zh_iast zJ_287 (z := 0) rfl (k' := 17) rfl hfg f1 (by omega) ?_
    obtain ⟨_, rk, N, K⟩ := C2
    exact zLp_287 (rk := rk) X (X a 20 ha) (fun g b1 b2 b3 => (K g b1 b2 b3).2) (rk r.toInt + 1) _ _ r T3 E3 G3 S3 rfl rfl (Or.inr ⟨f1, f2, fb, Nat.lt_succ_self _⟩)
  · refine zh zJ_287 (i := (0, 0, 0, 0)) rfl rfl (k' := 8) (lo' := [(2, .int r), (0, .ref a), (1, .int hr)]) (st' := [.int (Int32.ofInt (0))]) (h' := h2) rfl ?_
    refine zh_iret zJ_287 (a := 0) (b := 0) (z := 0) rfl (Or.inr ⟨rfl, Or.inl rfl⟩) ?_
    exact hret _ (by decide) (by decide)
end
section
/-! the reference's reader: its state, and steps by it; printed with wip/gen/gen_rd1.py -/
noncomputable def zPm : List zMod := [(20, 10, 10), (20, 12, 12), (20, 13, 13), (20, 16, 16), (21, 1237, 2085)]
noncomputable def zPF (fs : List Value) (w b E P Q D S : Nat) : Prop := fs.length = 23 ∧ fs[1]? = some (.ref w) ∧ fs[8]? = some (.ref b) ∧ (∃ x : Int32, fs[11]? = some (.int x) ∧ x.toInt = (E : Int)) ∧ (∃ x : Int32, fs[10]? = some (.int x) ∧ x.toInt = (P : Int)) ∧ (∃ x : Int32, fs[12]? = some (.int x) ∧ x.toInt = (Q : Int)) ∧ (∃ x : Int32, fs[13]? = some (.int x) ∧ x.toInt = (D : Int)) ∧ (∃ x : Int32, fs[16]? = some (.int x) ∧ x.toInt = (S : Int))
noncomputable def zPS (ty : List Nat) (h0 : zH) (a w b E P Q D S : Nat) (g : Nat → Int32) (h : zH) : Prop := zTY z_tt ty h ∧ zE1 ty h ∧ zFm zPm ty h0 h ∧ ty[a]? = some 20 ∧ ty[w]? = some 21 ∧ ty[b]? = some 26 ∧ h[w]? = some (.inl (0, (2086, .inl g))) ∧ ∃ fs, h[a]? = some (.inr (9, fs)) ∧ zPF fs w b E P Q D S
noncomputable def zRq (Q : Option Value → zH → Prop) : zO → zH → Nat → Nat → Prop := fun o h x y => ∃ v, o = .inl v ∧ x = 0 ∧ y = 0 ∧ Q v h
theorem zI_add {x y : Int32} {X Y : Int} (hx : x.toInt = X) (hy : y.toInt = Y) (h1 : -2147483648 ≤ X + Y) (h2 : X + Y ≤ 2147483647) : (x + y).toInt = X + Y := by
  rw [Int32.toInt_add, hx, hy]; exact z_bm h1 h2
theorem zI_sub {x y : Int32} {X Y : Int} (hx : x.toInt = X) (hy : y.toInt = Y) (h1 : -2147483648 ≤ X - Y) (h2 : X - Y ≤ 2147483647) : (x - y).toInt = X - Y := by
  rw [Int32.toInt_sub, hx, hy]; exact z_bm h1 h2
theorem zI_mul {x y : Int32} {X Y : Int} (hx : x.toInt = X) (hy : y.toInt = Y) (h1 : -2147483648 ≤ X * Y) (h2 : X * Y ≤ 2147483647) : (x * y).toInt = X * Y := by
  rw [Int32.toInt_mul, hx, hy]; exact z_bm h1 h2
theorem zI_c {n : Int} (h1 : -2147483648 ≤ n) (h2 : n ≤ 2147483647) : (Int32.ofInt n).toInt = n := z_of32 h1 h2
section ZRD
variable {ty : List Nat} {h0 : zH} {a w b E P Q D S : Nat} {g : Nat → Int32} {sx : zX} {d j k k' : Nat} {lo : zL} {st : List Value} {h : zH} {Ψ : zO → zH → Nat → Nat → Prop} {M : zMi} {cs : List zI} {hs : List zHd} {z : Int}
theorem zPS.bd (H : zPS ty h0 a w b E P Q D S g h) : E ≤ 400 ∧ P ≤ 400 ∧ Q ≤ 400 ∧ D ≤ 6 ∧ S ≤ 400 := by
  obtain ⟨T, -, -, ha, -, -, -, fs, he, hl, -, -, ⟨x11, g11, e11⟩, ⟨x10, g10, e10⟩, ⟨x12, g12, e12⟩, ⟨x13, g13, e13⟩, ⟨x16, g16, e16⟩⟩ := H
  obtain ⟨y11, q11, l11, u11⟩ := zfd0 (b := 11) (lo := 0) (hi := 400) T ha he (by omega) (by decide +kernel)
  rw [g11] at q11
  cases q11
  obtain ⟨y10, q10, l10, u10⟩ := zfd0 (b := 10) (lo := 0) (hi := 400) T ha he (by omega) (by decide +kernel)
  rw [g10] at q10
  cases q10
  obtain ⟨y12, q12, l12, u12⟩ := zfd0 (b := 12) (lo := 0) (hi := 400) T ha he (by omega) (by decide +kernel)
  rw [g12] at q12
  cases q12
  obtain ⟨y13, q13, l13, u13⟩ := zfd0 (b := 13) (lo := 0) (hi := 6) T ha he (by omega) (by decide +kernel)
  rw [g13] at q13
  cases q13
  obtain ⟨y16, q16, l16, u16⟩ := zfd0 (b := 16) (lo := 0) (hi := 400) T ha he (by omega) (by decide +kernel)
  rw [g16] at q16
  cases q16
  omega
theorem zPS.ac (H : zPS ty h0 a w b E P Q D S g h) : ∃ fs, h[a]? = some (.inr (9, fs)) := by
  obtain ⟨-, -, -, -, -, -, -, fs, he, -⟩ := H
  exact ⟨fs, he⟩
theorem zg11 (H : zPS ty h0 a w b E P Q D S g h) (J : zJ3 j M cs hs) (hi : cs[k]? = some (37, 9, 11, z)) (hk : k + 1 = k') (kk : ∀ x : Int32, x.toInt = (E : Int) → z_ok sx d j k' lo (.int x :: st) h Ψ) : z_ok sx d j k lo (.ref a :: st) h Ψ := by
  obtain ⟨T, E1, F, ha, hw, hb, hg, fs, he, hl, f1, f8, ⟨x11, g11, e11⟩, ⟨x10, g10, e10⟩, ⟨x12, g12, e12⟩, ⟨x13, g13, e13⟩, ⟨x16, g16, e16⟩⟩ := H
  exact zh_get J hi hk he g11 (kk x11 e11)
theorem zg10 (H : zPS ty h0 a w b E P Q D S g h) (J : zJ3 j M cs hs) (hi : cs[k]? = some (37, 9, 10, z)) (hk : k + 1 = k') (kk : ∀ x : Int32, x.toInt = (P : Int) → z_ok sx d j k' lo (.int x :: st) h Ψ) : z_ok sx d j k lo (.ref a :: st) h Ψ := by
  obtain ⟨T, E1, F, ha, hw, hb, hg, fs, he, hl, f1, f8, ⟨x11, g11, e11⟩, ⟨x10, g10, e10⟩, ⟨x12, g12, e12⟩, ⟨x13, g13, e13⟩, ⟨x16, g16, e16⟩⟩ := H
  exact zh_get J hi hk he g10 (kk x10 e10)
theorem zg12 (H : zPS ty h0 a w b E P Q D S g h) (J : zJ3 j M cs hs) (hi : cs[k]? = some (37, 9, 12, z)) (hk : k + 1 = k') (kk : ∀ x : Int32, x.toInt = (Q : Int) → z_ok sx d j k' lo (.int x :: st) h Ψ) : z_ok sx d j k lo (.ref a :: st) h Ψ := by
  obtain ⟨T, E1, F, ha, hw, hb, hg, fs, he, hl, f1, f8, ⟨x11, g11, e11⟩, ⟨x10, g10, e10⟩, ⟨x12, g12, e12⟩, ⟨x13, g13, e13⟩, ⟨x16, g16, e16⟩⟩ := H
  exact zh_get J hi hk he g12 (kk x12 e12)
theorem zg13 (H : zPS ty h0 a w b E P Q D S g h) (J : zJ3 j M cs hs) (hi : cs[k]? = some (37, 9, 13, z)) (hk : k + 1 = k') (kk : ∀ x : Int32, x.toInt = (D : Int) → z_ok sx d j k' lo (.int x :: st) h Ψ) : z_ok sx d j k lo (.ref a :: st) h Ψ := by
  obtain ⟨T, E1, F, ha, hw, hb, hg, fs, he, hl, f1, f8, ⟨x11, g11, e11⟩, ⟨x10, g10, e10⟩, ⟨x12, g12, e12⟩, ⟨x13, g13, e13⟩, ⟨x16, g16, e16⟩⟩ := H
  exact zh_get J hi hk he g13 (kk x13 e13)
theorem zg16 (H : zPS ty h0 a w b E P Q D S g h) (J : zJ3 j M cs hs) (hi : cs[k]? = some (37, 9, 16, z)) (hk : k + 1 = k') (kk : ∀ x : Int32, x.toInt = (S : Int) → z_ok sx d j k' lo (.int x :: st) h Ψ) : z_ok sx d j k lo (.ref a :: st) h Ψ := by
  obtain ⟨T, E1, F, ha, hw, hb, hg, fs, he, hl, f1, f8, ⟨x11, g11, e11⟩, ⟨x10, g10, e10⟩, ⟨x12, g12, e12⟩, ⟨x13, g13, e13⟩, ⟨x16, g16, e16⟩⟩ := H
  exact zh_get J hi hk he g16 (kk x16 e16)
theorem zg1 (H : zPS ty h0 a w b E P Q D S g h) (J : zJ3 j M cs hs) (hi : cs[k]? = some (37, 9, 1, z)) (hk : k + 1 = k') (kk : z_ok sx d j k' lo (.ref w :: st) h Ψ) : z_ok sx d j k lo (.ref a :: st) h Ψ := by
  obtain ⟨T, E1, F, ha, hw, hb, hg, fs, he, hl, f1, f8, ⟨x11, g11, e11⟩, ⟨x10, g10, e10⟩, ⟨x12, g12, e12⟩, ⟨x13, g13, e13⟩, ⟨x16, g16, e16⟩⟩ := H
  exact zh_get J hi hk he f1 kk
theorem zg8 (H : zPS ty h0 a w b E P Q D S g h) (J : zJ3 j M cs hs) (hi : cs[k]? = some (37, 9, 8, z)) (hk : k + 1 = k') (kk : z_ok sx d j k' lo (.ref b :: st) h Ψ) : z_ok sx d j k lo (.ref a :: st) h Ψ := by
  obtain ⟨T, E1, F, ha, hw, hb, hg, fs, he, hl, f1, f8, ⟨x11, g11, e11⟩, ⟨x10, g10, e10⟩, ⟨x12, g12, e12⟩, ⟨x13, g13, e13⟩, ⟨x16, g16, e16⟩⟩ := H
  exact zh_get J hi hk he f8 kk
theorem zp10 (H : zPS ty h0 a w b E P Q D S g h) (J : zJ3 j M cs hs) (hi : cs[k]? = some (38, 9, 10, 0)) (hk : k + 1 = k') {v : Int32} (V : Nat) (hv : v.toInt = (V : Int)) (hV : V ≤ 400) (kk : ∀ h', zPS ty h0 a w b E V Q D S g h' → z_ok sx d j k' lo st h' Ψ) : z_ok sx d j k lo (.int v :: .ref a :: st) h Ψ := by
  obtain ⟨T, E1, F, ha, hw, hb, hg, fs, he, hl, f1, f8, ⟨x11, g11, e11⟩, ⟨x10, g10, e10⟩, ⟨x12, g12, e12⟩, ⟨x13, g13, e13⟩, ⟨x16, g16, e16⟩⟩ := H
  obtain ⟨T', F'⟩ := zwf' (ms := zPm) (b := 10) (V := (0, 0, 400)) (v := .int v) T ha he (by omega) ⟨v, rfl, by omega, by omega⟩ (by decide +kernel) (by decide +kernel)
  have E' := zE1_stable (ms := zPm) (by decide +kernel) ty h _ T T' (T.len T') F' E1
  have hn : a ≠ w := fun e => by rw [e, hw] at ha; cases ha
  exact zh_put J hi hk he (by omega) rfl (kk _ ⟨T', E', F.tr zExt.rf F', ha, hw, hb, (zset_ne hn).trans hg, _, zset_eq he, by rw [List.length_set]; exact hl, (List.getElem?_set_ne (by decide)).trans f1, (List.getElem?_set_ne (by decide)).trans f8, ⟨x11, (List.getElem?_set_ne (by decide)).trans g11, e11⟩, ⟨v, List.getElem?_set_self (by omega), hv⟩, ⟨x12, (List.getElem?_set_ne (by decide)).trans g12, e12⟩, ⟨x13, (List.getElem?_set_ne (by decide)).trans g13, e13⟩, ⟨x16, (List.getElem?_set_ne (by decide)).trans g16, e16⟩⟩)
theorem zp12 (H : zPS ty h0 a w b E P Q D S g h) (J : zJ3 j M cs hs) (hi : cs[k]? = some (38, 9, 12, 0)) (hk : k + 1 = k') {v : Int32} (V : Nat) (hv : v.toInt = (V : Int)) (hV : V ≤ 400) (kk : ∀ h', zPS ty h0 a w b E P V D S g h' → z_ok sx d j k' lo st h' Ψ) : z_ok sx d j k lo (.int v :: .ref a :: st) h Ψ := by
  obtain ⟨T, E1, F, ha, hw, hb, hg, fs, he, hl, f1, f8, ⟨x11, g11, e11⟩, ⟨x10, g10, e10⟩, ⟨x12, g12, e12⟩, ⟨x13, g13, e13⟩, ⟨x16, g16, e16⟩⟩ := H
  obtain ⟨T', F'⟩ := zwf' (ms := zPm) (b := 12) (V := (0, 0, 400)) (v := .int v) T ha he (by omega) ⟨v, rfl, by omega, by omega⟩ (by decide +kernel) (by decide +kernel)
  have E' := zE1_stable (ms := zPm) (by decide +kernel) ty h _ T T' (T.len T') F' E1
  have hn : a ≠ w := fun e => by rw [e, hw] at ha; cases ha
  exact zh_put J hi hk he (by omega) rfl (kk _ ⟨T', E', F.tr zExt.rf F', ha, hw, hb, (zset_ne hn).trans hg, _, zset_eq he, by rw [List.length_set]; exact hl, (List.getElem?_set_ne (by decide)).trans f1, (List.getElem?_set_ne (by decide)).trans f8, ⟨x11, (List.getElem?_set_ne (by decide)).trans g11, e11⟩, ⟨x10, (List.getElem?_set_ne (by decide)).trans g10, e10⟩, ⟨v, List.getElem?_set_self (by omega), hv⟩, ⟨x13, (List.getElem?_set_ne (by decide)).trans g13, e13⟩, ⟨x16, (List.getElem?_set_ne (by decide)).trans g16, e16⟩⟩)
theorem zp13 (H : zPS ty h0 a w b E P Q D S g h) (J : zJ3 j M cs hs) (hi : cs[k]? = some (38, 9, 13, 0)) (hk : k + 1 = k') {v : Int32} (V : Nat) (hv : v.toInt = (V : Int)) (hV : V ≤ 6) (kk : ∀ h', zPS ty h0 a w b E P Q V S g h' → z_ok sx d j k' lo st h' Ψ) : z_ok sx d j k lo (.int v :: .ref a :: st) h Ψ := by
  obtain ⟨T, E1, F, ha, hw, hb, hg, fs, he, hl, f1, f8, ⟨x11, g11, e11⟩, ⟨x10, g10, e10⟩, ⟨x12, g12, e12⟩, ⟨x13, g13, e13⟩, ⟨x16, g16, e16⟩⟩ := H
  obtain ⟨T', F'⟩ := zwf' (ms := zPm) (b := 13) (V := (0, 0, 6)) (v := .int v) T ha he (by omega) ⟨v, rfl, by omega, by omega⟩ (by decide +kernel) (by decide +kernel)
  have E' := zE1_stable (ms := zPm) (by decide +kernel) ty h _ T T' (T.len T') F' E1
  have hn : a ≠ w := fun e => by rw [e, hw] at ha; cases ha
  exact zh_put J hi hk he (by omega) rfl (kk _ ⟨T', E', F.tr zExt.rf F', ha, hw, hb, (zset_ne hn).trans hg, _, zset_eq he, by rw [List.length_set]; exact hl, (List.getElem?_set_ne (by decide)).trans f1, (List.getElem?_set_ne (by decide)).trans f8, ⟨x11, (List.getElem?_set_ne (by decide)).trans g11, e11⟩, ⟨x10, (List.getElem?_set_ne (by decide)).trans g10, e10⟩, ⟨x12, (List.getElem?_set_ne (by decide)).trans g12, e12⟩, ⟨v, List.getElem?_set_self (by omega), hv⟩, ⟨x16, (List.getElem?_set_ne (by decide)).trans g16, e16⟩⟩)
theorem zp16 (H : zPS ty h0 a w b E P Q D S g h) (J : zJ3 j M cs hs) (hi : cs[k]? = some (38, 9, 16, 0)) (hk : k + 1 = k') {v : Int32} (V : Nat) (hv : v.toInt = (V : Int)) (hV : V ≤ 400) (kk : ∀ h', zPS ty h0 a w b E P Q D V g h' → z_ok sx d j k' lo st h' Ψ) : z_ok sx d j k lo (.int v :: .ref a :: st) h Ψ := by
  obtain ⟨T, E1, F, ha, hw, hb, hg, fs, he, hl, f1, f8, ⟨x11, g11, e11⟩, ⟨x10, g10, e10⟩, ⟨x12, g12, e12⟩, ⟨x13, g13, e13⟩, ⟨x16, g16, e16⟩⟩ := H
  obtain ⟨T', F'⟩ := zwf' (ms := zPm) (b := 16) (V := (0, 0, 400)) (v := .int v) T ha he (by omega) ⟨v, rfl, by omega, by omega⟩ (by decide +kernel) (by decide +kernel)
  have E' := zE1_stable (ms := zPm) (by decide +kernel) ty h _ T T' (T.len T') F' E1
  have hn : a ≠ w := fun e => by rw [e, hw] at ha; cases ha
  exact zh_put J hi hk he (by omega) rfl (kk _ ⟨T', E', F.tr zExt.rf F', ha, hw, hb, (zset_ne hn).trans hg, _, zset_eq he, by rw [List.length_set]; exact hl, (List.getElem?_set_ne (by decide)).trans f1, (List.getElem?_set_ne (by decide)).trans f8, ⟨x11, (List.getElem?_set_ne (by decide)).trans g11, e11⟩, ⟨x10, (List.getElem?_set_ne (by decide)).trans g10, e10⟩, ⟨x12, (List.getElem?_set_ne (by decide)).trans g12, e12⟩, ⟨x13, (List.getElem?_set_ne (by decide)).trans g13, e13⟩, ⟨v, List.getElem?_set_self (by omega), hv⟩⟩)
theorem zpw {p q : Nat} (H : zPS ty h0 a w b E P Q D S g h) (J : zJ3 j M cs hs) (hi : cs[k]? = some (40, p, q, z)) (hk : k + 1 = k') {x v : Int32} (X : Nat) (hx : x.toInt = (X : Int)) (h1 : 1237 ≤ X) (h2 : X ≤ 2085) (kk : ∀ h', zPS ty h0 a w b E P Q D S (upd g X v) h' → z_ok sx d j k' lo st h' Ψ) : z_ok sx d j k lo (.int v :: .int x :: .ref w :: st) h Ψ := by
  obtain ⟨T, E1, F, ha, hw, hb, hg, fs, he, hl, f1, f8, ⟨x11, g11, e11⟩, ⟨x10, g10, e10⟩, ⟨x12, g12, e12⟩, ⟨x13, g13, e13⟩, ⟨x16, g16, e16⟩⟩ := H
  obtain ⟨T', F'⟩ := zwr (ms := zPm) T hw hg (i := X) (x := v) (by omega) (zst_ok (a := zFull) (ilo := 1237) (ihi := 2085) (by decide +kernel) (zFull_ok _) (by omega) (by omega)) (zcv_ok (lo := 1237) (hi := 2085) (by decide +kernel) (by omega) (by omega))
  have E' := zE1_stable (ms := zPm) (by decide +kernel) ty h _ T T' (T.len T') F' E1
  have hn : w ≠ a := fun e => by rw [e, ha] at hw; cases hw
  have hX : x.toNatClampNeg = X := znat hx
  refine zh_iast J hi hk hg (by omega) (by omega) ?_
  rw [hX]
  exact kk _ ⟨T', E', F.tr zExt.rf F', ha, hw, hb, zset_eq hg, fs, (zset_ne hn).trans he, hl, f1, f8, ⟨x11, g11, e11⟩, ⟨x10, g10, e10⟩, ⟨x12, g12, e12⟩, ⟨x13, g13, e13⟩, ⟨x16, g16, e16⟩⟩
theorem zlwd {p q : Nat} (H : zPS ty h0 a w b E P Q D S g h) (J : zJ3 j M cs hs) (hi : cs[k]? = some (39, p, q, z)) (hk : k + 1 = k') {x : Int32} (X : Nat) (hx : x.toInt = (X : Int)) (h2 : X ≤ 2085) (kk : z_ok sx d j k' lo (.int (g X) :: st) h Ψ) : z_ok sx d j k lo (.int x :: .ref w :: st) h Ψ := by
  obtain ⟨T, E1, F, ha, hw, hb, hg, fs, he, hl, f1, f8, ⟨x11, g11, e11⟩, ⟨x10, g10, e10⟩, ⟨x12, g12, e12⟩, ⟨x13, g13, e13⟩, ⟨x16, g16, e16⟩⟩ := H
  have hX : x.toNatClampNeg = X := znat hx
  refine zh_iald J hi hk hg (by omega) (by omega) ?_
  rw [hX]
  exact kk
theorem zlb {p q : Nat} (H : zPS ty h0 a w b E P Q D S g h) (J : zJ3 j M cs hs) (hi : cs[k]? = some (41, p, q, z)) (hk : k + 1 = k') {x : Int32} (X : Nat) (hx : x.toInt = (X : Int)) (h2 : X < 400) (kk : ∀ c : Int32, z_ok sx d j k' lo (.int c :: st) h Ψ) : z_ok sx d j k lo (.int x :: .ref b :: st) h Ψ := by
  obtain ⟨T, E1, F, ha, hw, hb, hg, fs, he, hl, f1, f8, ⟨x11, g11, e11⟩, ⟨x10, g10, e10⟩, ⟨x12, g12, e12⟩, ⟨x13, g13, e13⟩, ⟨x16, g16, e16⟩⟩ := H
  obtain ⟨f, hf⟩ := zcell2 (n := 400) T hb rfl rfl
  exact zh_bald J hi hk hf (by omega) (by omega) (kk _)
theorem zldc {t p : Nat} (J : zJ3 j M cs hs) (hi : cs[k]? = some (58, t, p, z)) (hk : k + 1 = k') (ht : t < z_strs.length) (kk : z_ok sx d j k' lo (.ref (zB + t) :: st) h Ψ) : z_ok sx d j k lo st h Ψ := by
  refine zh J hi rfl ?_ kk
  show zo_ldcs sx d t p z k lo st h = _
  unfold zo_ldcs
  rw [if_pos ht, hk]
/-- a call of one of the reference's methods whose run is known -/
theorem zcl {j' n : Nat} {xs rest : List Value} {M' : zMi} {R : Option Value → zH → Prop} (H : zPS ty h0 a w b E P Q D S g h) (J : zJ3 j M cs hs) (hi : cs[k]? = some (54, j', n, 9)) (hk : k + 1 = k') (hd : 0 < d) (hst : st = xs ++ .ref a :: rest) (hx : xs.length = n) (hz : z_cat rest ≤ 8) (hM : z_ms[j']? = some M') (hl : (lg_sl (.ref a :: xs.reverse)).length ≤ M'.2.2.2.1) (r : z_ok sx (d - 1) j' 0 (lv_args 0 (.ref a :: xs.reverse)) [] h (zRq R)) (kk : ∀ v h', R v h' → z_ok sx d j k' lo (v.toList ++ rest) h' Ψ) : z_ok sx d j k lo st h Ψ := by
  obtain ⟨fs, he⟩ := H.ac
  refine zh_run (rest := rest) J hi (show (54 : Nat) ≠ 50 ∧ (54 : Nat) ≠ 51 ∧ (54 : Nat) ≠ 52 ∧ (54 : Nat) ≠ 53 ∧ (54 : Nat) ≠ 62 by decide) (zcal54 hd hst hx he rfl hz hM hl) r (fun o h' x y q => ?_)
  obtain ⟨v, rfl, rfl, rfl, q⟩ := q
  rw [hk]
  exact ⟨v, rfl, rfl, rfl, kk v h' q⟩
end ZRD
/-! what code of a line does to the top of its stack, in the draft -/
noncomputable def zPs (g : Nat → Int32) : Nat → Nat → Nat → Nat → Prop
  | 0, _, t, t' => t' = t
  | n + 1, i, t, t' => let s := (g (1286 + 2 * i)).toInt
    i < 400 ∧ (if s ≤ 8 then t < 400 ∧ zPs g n (i + 1) (t + 1) t' else if s = 12 then 1 ≤ t ∧ zPs g n (i + 1) t t' else 2 ≤ t ∧ zPs g n (i + 1) (t - 1) t')
theorem zPs_app {g : Nat → Int32} : ∀ {n i t t1 m t2 : Nat}, zPs g n i t t1 → zPs g m (i + n) t1 t2 → zPs g (n + m) i t t2
  | 0, i, t, t1, m, t2, h1, h2 => by
    have h1 : t1 = t := h1
    subst h1
    rw [Nat.zero_add]
    exact h2
  | n + 1, i, t, t1, m, t2, h1, h2 => by
    rw [show n + 1 + m = (n + m) + 1 by omega]
    rw [show i + (n + 1) = i + 1 + n by omega] at h2
    obtain ⟨a1, a2⟩ := h1
    refine ⟨a1, ?_⟩
    split
    · next h3 => rw [if_pos h3] at a2; exact ⟨a2.1, zPs_app a2.2 h2⟩
    · next h3 =>
      rw [if_neg h3] at a2
      split
      · next h4 => rw [if_pos h4] at a2; exact ⟨a2.1, zPs_app a2.2 h2⟩
      · next h4 => rw [if_neg h4] at a2; exact ⟨a2.1, zPs_app a2.2 h2⟩
theorem zPs_congr {g g' : Nat → Int32} : ∀ {n i t t' : Nat}, (∀ k, k < 1286 + 2 * (i + n) → g' k = g k) → zPs g n i t t' → zPs g' n i t t'
  | 0, _, _, _, _, h => h
  | n + 1, i, t, t', hc, h => by
    obtain ⟨a1, a2⟩ := h
    refine ⟨a1, ?_⟩
    have hc' : ∀ k, k < 1286 + 2 * (i + 1 + n) → g' k = g k := fun k hk => hc k (by omega)
    rw [hc (1286 + 2 * i) (by omega)]
    split
    · next h3 => rw [if_pos h3] at a2; exact ⟨a2.1, zPs_congr hc' a2.2⟩
    · next h3 =>
      rw [if_neg h3] at a2
      split
      · next h4 => rw [if_pos h4] at a2; exact ⟨a2.1, zPs_congr hc' a2.2⟩
      · next h4 => rw [if_neg h4] at a2; exact ⟨a2.1, zPs_congr hc' a2.2⟩
theorem zPs_le {g : Nat → Int32} : ∀ {n i t t' : Nat}, zPs g n i t t' → t' ≤ t + n
  | 0, _, _, _, h => by have h : _ = _ := h; omega
  | n + 1, i, t, t', h => by
    obtain ⟨a1, a2⟩ := h
    split at a2
    · have := zPs_le a2.2; omega
    · split at a2
      · have := zPs_le a2.2; omega
      · have := zPs_le a2.2; omega
noncomputable def zCd (S : Nat) (g : Nat → Int32) (S' : Nat) (g' : Nat → Int32) (n : Nat) : Prop := S ≤ S' ∧ (∀ k, k < 1286 + 2 * S → g' k = g k) ∧ ∀ t, t ≤ S → zPs g' (S' - S) S t (t + n)
noncomputable def zEm (g : Nat → Int32) (S : Nat) (u v : Int32) : Nat → Int32 := upd (upd g (1286 + 2 * S) u) (1287 + 2 * S) v
theorem zEm_lt {g : Nat → Int32} {S : Nat} {u v : Int32} {k : Nat} (h : k < 1286 + 2 * S) : zEm g S u v k = g k := by
  unfold zEm upd
  rw [if_neg (by omega), if_neg (by omega)]
theorem zEm_at {g : Nat → Int32} {S : Nat} {u v : Int32} : zEm g S u v (1286 + 2 * S) = u := by
  unfold zEm upd
  rw [if_neg (by omega), if_pos rfl]
theorem zCd.push {S : Nat} {g : Nat → Int32} {u v : Int32} (hS : S < 400) (hu : u.toInt ≤ 8) : zCd S g (S + 1) (zEm g S u v) 1 := by
  refine ⟨by omega, fun k hk => zEm_lt hk, fun t ht => ?_⟩
  rw [show S + 1 - S = 0 + 1 by omega]
  refine ⟨hS, ?_⟩
  rw [zEm_at, if_pos hu]
  exact ⟨by omega, rfl⟩
theorem zCd.two {S S1 S2 : Nat} {g g1 g2 : Nat → Int32} (h1 : zCd S g S1 g1 1) (h2 : zCd S1 g1 S2 g2 1) : zCd S g S2 g2 2 := by
  obtain ⟨a1, a2, a3⟩ := h1
  obtain ⟨b1, b2, b3⟩ := h2
  refine ⟨by omega, fun k hk => by rw [b2 k (by omega), a2 k hk], fun t ht => ?_⟩
  have c1 := zPs_congr (g' := g2) (fun k hk => b2 k (by omega)) (a3 t ht)
  have c2 := zPs_le c1
  have c3 := b3 (t + 1) (by omega)
  rw [show S1 = S + (S1 - S) by omega] at c3
  have := zPs_app c1 c3
  rw [show S1 - S + (S2 - (S + (S1 - S))) = S2 - S by omega] at this
  exact this
theorem zCd.one {S S1 : Nat} {g g1 : Nat → Int32} {n m : Nat} {u v : Int32} (h1 : zCd S g S1 g1 n) (hS : S1 < 400) (hs : ∀ t, zPs (zEm g1 S1 u v) 1 S1 (t + n) (t + m)) : zCd S g (S1 + 1) (zEm g1 S1 u v) m := by
  obtain ⟨a1, a2, a3⟩ := h1
  refine ⟨by omega, fun k hk => by rw [zEm_lt (by omega), a2 k hk], fun t ht => ?_⟩
  have c1 := zPs_congr (g' := zEm g1 S1 u v) (fun k hk => zEm_lt (by omega)) (a3 t ht)
  have c3 := hs t
  rw [show S1 + 1 - S = S1 - S + 1 by omega]
  refine zPs_app c1 ?_
  rw [show S + (S1 - S) = S1 by omega]
  exact c3
theorem zCd.bin {S S1 : Nat} {g g1 : Nat → Int32} {u v : Int32} (h1 : zCd S g S1 g1 2) (hS : S1 < 400) (hu : 8 < u.toInt) (hu2 : u.toInt ≠ 12) : zCd S g (S1 + 1) (zEm g1 S1 u v) 1 := h1.one hS (fun t => by
  refine ⟨hS, ?_⟩
  rw [zEm_at, if_neg (by omega), if_neg hu2]
  exact ⟨by omega, by show t + 1 = t + 2 - 1; omega⟩)
theorem zCd.not {S S1 : Nat} {g g1 : Nat → Int32} {u v : Int32} (h1 : zCd S g S1 g1 1) (hS : S1 < 400) (hu : u.toInt = 12) : zCd S g (S1 + 1) (zEm g1 S1 u v) 1 := h1.one hS (fun t => by
  refine ⟨hS, ?_⟩
  rw [zEm_at, if_neg (by omega), if_pos hu]
  exact ⟨by omega, rfl⟩)
/-- how a piece of the grammar ends -/
noncomputable def zGs (ty : List Nat) (h0 : zH) (a w b E P D S : Nat) (g : Nat → Int32) : Option Value → zH → Prop := fun r h' => ∃ (c : Int32) (P' Q' D' S' : Nat) (g' : Nat → Int32), r = some (.int c) ∧ zPS ty h0 a w b E P' Q' D' S' g' h' ∧ (c = 0 ∨ (c = 1 ∧ D' = D ∧ S' + P ≤ P' + S ∧ zCd S g S' g' 1))
/-- how a look at the tape ends -/
noncomputable def zLk (ty : List Nat) (h0 : zH) (a w b E P D S : Nat) (g : Nat → Int32) : Option Value → zH → Prop := fun r h' => ∃ (c : Int32) (P' Q' : Nat), r = some (.int c) ∧ zPS ty h0 a w b E P' Q' D S g h' ∧ P ≤ P' ∧ (c = 0 ∨ (c = 1 ∧ P + 1 ≤ P'))
end
section
/-! the reference's reader: looks at the tape; printed with wip/gen/gen_rd2.py -/
theorem zJ_201 : zJ3 201 z_m201 z_c201 z_h201 := ⟨rfl, rfl, rfl⟩
set_option maxRecDepth 100000 in
theorem zS_201 {sx : zX} {ty : List Nat} {h0 : zH} {a w b E : Nat} {P Q D S d : Nat} {g : Nat → Int32} {h : zH} (H : zPS ty h0 a w b E P Q D S g h) (u v : Int32) : z_ok sx d 201 0 (lv_args 0 [.ref a, .int u, .int v]) [] h (zRq (fun r h' => h' = h ∧ ∃ c : Int32, r = some (.int c) ∧ (c = 0 ∨ (c = 1 ∧ P < E)))) := by
  obtain ⟨bE, bP, bQ, bD, bS⟩ := H.bd
  show z_ok sx d 201 0 [(0, .ref a), (1, .int u), (2, .int v)] [] h _
  refine zh zJ_201 (i := (2, 0, 0, 0)) rfl rfl (k' := 1) (lo' := [(0, .ref a), (1, .int u), (2, .int v)]) (st' := [.ref a]) (h' := h) rfl ?_
  refine zg10 H zJ_201 rfl (k' := 2) rfl (fun x1 ex1 => ?_)
  refine zh zJ_201 (i := (2, 0, 0, 0)) rfl rfl (k' := 3) (lo' := [(0, .ref a), (1, .int u), (2, .int v)]) (st' := [.ref a, .int x1]) (h' := h) rfl ?_
  refine zg11 H zJ_201 rfl (k' := 4) rfl (fun x2 ex2 => ?_)
  refine zh_icmp zJ_201 (a := 21) (b := 3) (z := 0) rfl (fun hc3 => ?_) (fun hc3 => ?_)
  · refine zh zJ_201 (i := (0, 0, 0, 0)) rfl rfl (k' := 22) (lo' := [(0, .ref a), (1, .int u), (2, .int v)]) (st' := [.int (Int32.ofInt (0))]) (h' := h) rfl ?_
    refine zh_iret zJ_201 (a := 0) (b := 0) (z := 0) rfl (Or.inr ⟨rfl, Or.inl rfl⟩) ?_
    exact ⟨_, rfl, rfl, rfl, rfl, _, rfl, Or.inl rfl⟩
  · have hlt : P < E := by
      have := mt zcmp_ge.mpr hc3
      omega
    refine zh zJ_201 (i := (2, 0, 0, 0)) rfl rfl (k' := 6) (lo' := [(0, .ref a), (1, .int u), (2, .int v)]) (st' := [.ref a]) (h' := h) rfl ?_
    refine zg8 H zJ_201 rfl (k' := 7) rfl ?_
    refine zh zJ_201 (i := (2, 0, 0, 0)) rfl rfl (k' := 8) (lo' := [(0, .ref a), (1, .int u), (2, .int v)]) (st' := [.ref a, .ref b]) (h' := h) rfl ?_
    refine zg10 H zJ_201 rfl (k' := 9) rfl (fun x4 ex4 => ?_)
    refine zlb H zJ_201 rfl (k' := 10) rfl (P) ex4 (by omega) (fun c5 => ?_)
    refine zh zJ_201 (i := (1, 1, 0, 0)) rfl rfl (k' := 11) (lo' := [(0, .ref a), (1, .int u), (2, .int v)]) (st' := [.int u, .int c5]) (h' := h) rfl ?_
    refine zh_icmp zJ_201 (a := 21) (b := 2) (z := 0) rfl (fun hc6 => ?_) (fun hc6 => ?_)
    · refine zh zJ_201 (i := (0, 0, 0, 0)) rfl rfl (k' := 22) (lo' := [(0, .ref a), (1, .int u), (2, .int v)]) (st' := [.int (Int32.ofInt (0))]) (h' := h) rfl ?_
      refine zh_iret zJ_201 (a := 0) (b := 0) (z := 0) rfl (Or.inr ⟨rfl, Or.inl rfl⟩) ?_
      exact ⟨_, rfl, rfl, rfl, rfl, _, rfl, Or.inl rfl⟩
    · refine zh zJ_201 (i := (2, 0, 0, 0)) rfl rfl (k' := 13) (lo' := [(0, .ref a), (1, .int u), (2, .int v)]) (st' := [.ref a]) (h' := h) rfl ?_
      refine zg8 H zJ_201 rfl (k' := 14) rfl ?_
      refine zh zJ_201 (i := (2, 0, 0, 0)) rfl rfl (k' := 15) (lo' := [(0, .ref a), (1, .int u), (2, .int v)]) (st' := [.ref a, .ref b]) (h' := h) rfl ?_
      refine zg10 H zJ_201 rfl (k' := 16) rfl (fun x7 ex7 => ?_)
      refine zlb H zJ_201 rfl (k' := 17) rfl (P) ex7 (by omega) (fun c8 => ?_)
      refine zh zJ_201 (i := (1, 2, 0, 0)) rfl rfl (k' := 18) (lo' := [(0, .ref a), (1, .int u), (2, .int v)]) (st' := [.int v, .int c8]) (h' := h) rfl ?_
      refine zh_icmp zJ_201 (a := 21) (b := 4) (z := 0) rfl (fun hc9 => ?_) (fun hc9 => ?_)
      · refine zh zJ_201 (i := (0, 0, 0, 0)) rfl rfl (k' := 22) (lo' := [(0, .ref a), (1, .int u), (2, .int v)]) (st' := [.int (Int32.ofInt (0))]) (h' := h) rfl ?_
        refine zh_iret zJ_201 (a := 0) (b := 0) (z := 0) rfl (Or.inr ⟨rfl, Or.inl rfl⟩) ?_
        exact ⟨_, rfl, rfl, rfl, rfl, _, rfl, Or.inl rfl⟩
      · refine zh zJ_201 (i := (0, 0, 0, 1)) rfl rfl (k' := 20) (lo' := [(0, .ref a), (1, .int u), (2, .int v)]) (st' := [.int (Int32.ofInt (1))]) (h' := h) rfl ?_
        refine zh zJ_201 (i := (30, 22, 0, 0)) rfl rfl (k' := 22) (lo' := [(0, .ref a), (1, .int u), (2, .int v)]) (st' := [.int (Int32.ofInt (1))]) (h' := h) rfl ?_
        refine zh_iret zJ_201 (a := 0) (b := 0) (z := 0) rfl (Or.inr ⟨rfl, Or.inr rfl⟩) ?_
        exact ⟨_, rfl, rfl, rfl, rfl, _, rfl, Or.inr ⟨rfl, hlt⟩⟩
theorem zJ_202 : zJ3 202 z_m202 z_c202 z_h202 := ⟨rfl, rfl, rfl⟩
set_option maxRecDepth 100000 in
theorem zLp_202 {sx : zX} {ty : List Nat} {h0 : zH} {a w b E : Nat} {D S d P0 : Nat} {g : Nat → Int32} (hd : 2 ≤ d) : ∀ (r P Q : Nat) (h : zH), P + r = 400 → P0 ≤ P → zPS ty h0 a w b E P Q D S g h → z_ok sx d 202 0 [(0, .ref a)] [] h (zRq (fun v h' => v = none ∧ ∃ P', P0 ≤ P' ∧ zPS ty h0 a w b E P' P' D S g h'))
  | r, P, Q, h, hr, hP, H => by
    obtain ⟨bE, bP, bQ, bD, bS⟩ := H.bd
    refine zh zJ_202 (i := (2, 0, 0, 0)) rfl rfl (k' := 1) (lo' := [(0, .ref a)]) (st' := [.ref a]) (h' := h) rfl ?_
    refine zh zJ_202 (i := (0, 0, 0, 32)) rfl rfl (k' := 2) (lo' := [(0, .ref a)]) (st' := [.int (Int32.ofInt (32)), .ref a]) (h' := h) rfl ?_
    refine zh zJ_202 (i := (0, 0, 0, 32)) rfl rfl (k' := 3) (lo' := [(0, .ref a)]) (st' := [.int (Int32.ofInt (32)), .int (Int32.ofInt (32)), .ref a]) (h' := h) rfl ?_
    refine zcl (xs := [.int (Int32.ofInt (32)), .int (Int32.ofInt (32))]) (rest := []) H zJ_202 rfl (k' := 4) rfl (by omega) rfl rfl (Nat.le_of_ble_eq_true rfl) (M' := z_m201) rfl (Nat.le_of_ble_eq_true rfl) (zS_201 H _ _) (fun v h10 q => ?_)
    obtain ⟨rfl, c, rfl, hc⟩ := q
    show z_ok sx d 202 4 [(0, .ref a)] [.int c] h10 _
    refine zh_if zJ_202 (a := 12) (b := 0) (z := 0) rfl (fun hc11 => ?_) (fun hc11 => ?_)
    · refine zh zJ_202 (i := (2, 0, 0, 0)) rfl rfl (k' := 13) (lo' := [(0, .ref a)]) (st' := [.ref a]) (h' := h10) rfl ?_
      refine zh zJ_202 (i := (2, 0, 0, 0)) rfl rfl (k' := 14) (lo' := [(0, .ref a)]) (st' := [.ref a, .ref a]) (h' := h10) rfl ?_
      refine zg10 H zJ_202 rfl (k' := 15) rfl (fun x12 ex12 => ?_)
      refine zp12 H zJ_202 rfl (k' := 16) rfl (P) ex12 bP (fun h13 Hh13 => ?_)
      refine zh_vret zJ_202 (a := 0) (b := 0) (z := 0) rfl ?_
      exact ⟨_, rfl, rfl, rfl, rfl, P, hP, Hh13⟩
    · have hlt : P < E := (hc.resolve_left (fun e => hc11 (by rw [e]; rfl))).2
      refine zh zJ_202 (i := (2, 0, 0, 0)) rfl rfl (k' := 6) (lo' := [(0, .ref a)]) (st' := [.ref a]) (h' := h10) rfl ?_
      refine zh zJ_202 (i := (27, 0, 0, 0)) rfl rfl (k' := 7) (lo' := [(0, .ref a)]) (st' := [.ref a, .ref a]) (h' := h10) rfl ?_
      refine zg10 H zJ_202 rfl (k' := 8) rfl (fun x14 ex14 => ?_)
      refine zh zJ_202 (i := (0, 0, 0, 1)) rfl rfl (k' := 9) (lo' := [(0, .ref a)]) (st' := [.int (Int32.ofInt (1)), .int x14, .ref a]) (h' := h10) rfl ?_
      refine zh zJ_202 (i := (8, 0, 0, 0)) rfl rfl (k' := 10) (lo' := [(0, .ref a)]) (st' := [.int (x14 + (Int32.ofInt (1))), .ref a]) (h' := h10) rfl ?_
      refine zp10 H zJ_202 rfl (k' := 11) rfl (P + 1) (by rw [zI_add ex14 (zI_c (by decide) (by decide)) (by omega) (by omega)]; omega) (by omega) (fun h15 Hh15 => ?_)
      refine zh zJ_202 (i := (30, 0, 0, 0)) rfl rfl (k' := 0) (lo' := [(0, .ref a)]) (st' := []) (h' := h15) rfl ?_
      obtain ⟨r, rfl⟩ : ∃ r', r = r' + 1 := ⟨r - 1, by omega⟩
      exact zLp_202 hd r (P + 1) Q _ (by omega) (by omega) Hh15
theorem zS_202 {sx : zX} {ty : List Nat} {h0 : zH} {a w b E : Nat} {P Q D S d : Nat} {g : Nat → Int32} {h : zH} (hd : 2 ≤ d) (H : zPS ty h0 a w b E P Q D S g h) : z_ok sx d 202 0 (lv_args 0 [.ref a]) [] h (zRq (fun v h' => v = none ∧ ∃ P', P ≤ P' ∧ zPS ty h0 a w b E P' P' D S g h')) :=
  zLp_202 hd (400 - P) P Q h (by have := H.bd; omega) (Nat.le_refl _) H
theorem zJ_203 : zJ3 203 z_m203 z_c203 z_h203 := ⟨rfl, rfl, rfl⟩
set_option maxRecDepth 100000 in
theorem zLp_203 {sx : zX} {ty : List Nat} {h0 : zH} {a w b E : Nat} {Q D S d : Nat} {g : Nat → Int32} (hd : 2 ≤ d) : ∀ (r P : Nat) (h : zH), P + r = 400 → Q ≤ P → zPS ty h0 a w b E P Q D S g h → z_ok sx d 203 2 [(0, .ref a)] [] h (zRq (fun v h' => v = none ∧ ∃ P', Q ≤ P' ∧ zPS ty h0 a w b E P' Q D S g h'))
  | r, P, h, hr, hP, H => by
    obtain ⟨bE, bP, bQ, bD, bS⟩ := H.bd
    refine zh zJ_203 (i := (2, 0, 0, 0)) rfl rfl (k' := 3) (lo' := [(0, .ref a)]) (st' := [.ref a]) (h' := h) rfl ?_
    refine zh zJ_203 (i := (0, 0, 0, 97)) rfl rfl (k' := 4) (lo' := [(0, .ref a)]) (st' := [.int (Int32.ofInt (97)), .ref a]) (h' := h) rfl ?_
    refine zh zJ_203 (i := (0, 0, 0, 122)) rfl rfl (k' := 5) (lo' := [(0, .ref a)]) (st' := [.int (Int32.ofInt (122)), .int (Int32.ofInt (97)), .ref a]) (h' := h) rfl ?_
    refine zcl (xs := [.int (Int32.ofInt (122)), .int (Int32.ofInt (97))]) (rest := []) H zJ_203 rfl (k' := 6) rfl (by omega) rfl rfl (Nat.le_of_ble_eq_true rfl) (M' := z_m201) rfl (Nat.le_of_ble_eq_true rfl) (zS_201 H _ _) (fun v h16 q => ?_)
    obtain ⟨rfl, c, rfl, hc⟩ := q
    show z_ok sx d 203 6 [(0, .ref a)] [.int c] h16 _
    refine zh_if zJ_203 (a := 14) (b := 0) (z := 0) rfl (fun hc17 => ?_) (fun hc17 => ?_)
    · refine zh_vret zJ_203 (a := 0) (b := 0) (z := 0) rfl ?_
      exact ⟨_, rfl, rfl, rfl, rfl, P, hP, H⟩
    · have hlt : P < E := (hc.resolve_left (fun e => hc17 (by rw [e]; rfl))).2
      refine zh zJ_203 (i := (2, 0, 0, 0)) rfl rfl (k' := 8) (lo' := [(0, .ref a)]) (st' := [.ref a]) (h' := h16) rfl ?_
      refine zh zJ_203 (i := (27, 0, 0, 0)) rfl rfl (k' := 9) (lo' := [(0, .ref a)]) (st' := [.ref a, .ref a]) (h' := h16) rfl ?_
      refine zg10 H zJ_203 rfl (k' := 10) rfl (fun x18 ex18 => ?_)
      refine zh zJ_203 (i := (0, 0, 0, 1)) rfl rfl (k' := 11) (lo' := [(0, .ref a)]) (st' := [.int (Int32.ofInt (1)), .int x18, .ref a]) (h' := h16) rfl ?_
      refine zh zJ_203 (i := (8, 0, 0, 0)) rfl rfl (k' := 12) (lo' := [(0, .ref a)]) (st' := [.int (x18 + (Int32.ofInt (1))), .ref a]) (h' := h16) rfl ?_
      refine zp10 H zJ_203 rfl (k' := 13) rfl (P + 1) (by rw [zI_add ex18 (zI_c (by decide) (by decide)) (by omega) (by omega)]; omega) (by omega) (fun h19 Hh19 => ?_)
      refine zh zJ_203 (i := (30, 2, 0, 0)) rfl rfl (k' := 2) (lo' := [(0, .ref a)]) (st' := []) (h' := h19) rfl ?_
      obtain ⟨r, rfl⟩ : ∃ r', r = r' + 1 := ⟨r - 1, by omega⟩
      exact zLp_203 hd r (P + 1) _ (by omega) (by omega) Hh19
set_option maxRecDepth 100000 in
theorem zS_203 {sx : zX} {ty : List Nat} {h0 : zH} {a w b E : Nat} {P Q D S d : Nat} {g : Nat → Int32} {h : zH} (hd : 3 ≤ d) (H : zPS ty h0 a w b E P Q D S g h) : z_ok sx d 203 0 (lv_args 0 [.ref a]) [] h (zRq (fun v h' => v = none ∧ ∃ P' Q', P ≤ Q' ∧ Q' ≤ P' ∧ zPS ty h0 a w b E P' Q' D S g h')) := by
  show z_ok sx d 203 0 [(0, .ref a)] [] h _
  refine zh zJ_203 (i := (2, 0, 0, 0)) rfl rfl (k' := 1) (lo' := [(0, .ref a)]) (st' := [.ref a]) (h' := h) rfl ?_
  refine zcl (xs := []) (rest := []) H zJ_203 rfl (k' := 2) rfl (by omega) rfl rfl (Nat.le_of_ble_eq_true rfl) (M' := z_m202) rfl (Nat.le_of_ble_eq_true rfl) (zS_202 (by omega) H) (fun v h20 q => ?_)
  obtain ⟨rfl, P1, hP1, H1⟩ := q
  show z_ok sx d 203 2 [(0, .ref a)] [] h20 _
  refine z_ok.imp (zLp_203 (by omega) (400 - P1) P1 _ (by have := H1.bd; omega) (Nat.le_refl _) H1) (fun o h' x y q => ?_)
  obtain ⟨v, rfl, rfl, rfl, rfl, P', h1, h2⟩ := q
  exact ⟨_, rfl, rfl, rfl, rfl, P', P1, hP1, h1, h2⟩
set_option maxRecDepth 100000 in
theorem zS_204 {sx : zX} {ty : List Nat} {h0 : zH} {a w b E : Nat} {P Q D S d t : Nat} {g : Nat → Int32} {h : zH} {q : String × Nat × String × List Int32} (hd : 8 ≤ d) (hq : z_strs[t]? = some q) (hn : q.2.2.2.length ≤ 100) (hn1 : 1 ≤ q.2.2.2.length) (H : zPS ty h0 a w b E P Q D S g h) : z_ok sx d 204 0 (lv_args 0 [.ref a, .ref (zB + t)]) [] h (zRq (fun r h' => h' = h ∧ ∃ c : Int32, r = some (.int c) ∧ (c = 0 ∨ (c = 1 ∧ Q + 1 ≤ P)))) := by
  obtain ⟨bE, bP, bQ, bD, bS⟩ := H.bd
  show z_ok sx d 204 0 [(0, .ref a), (1, .ref (zB + t))] [] h _
  refine zh zJ_204 (i := (2, 0, 0, 0)) rfl rfl (k' := 1) (lo' := [(0, .ref a), (1, .ref (zB + t))]) (st' := [.ref a]) (h' := h) rfl ?_
  refine zg10 H zJ_204 rfl (k' := 2) rfl (fun x21 ex21 => ?_)
  refine zh zJ_204 (i := (2, 0, 0, 0)) rfl rfl (k' := 3) (lo' := [(0, .ref a), (1, .ref (zB + t))]) (st' := [.ref a, .int x21]) (h' := h) rfl ?_
  refine zg12 H zJ_204 rfl (k' := 4) rfl (fun x22 ex22 => ?_)
  refine zh zJ_204 (i := (9, 0, 0, 0)) rfl rfl (k' := 5) (lo' := [(0, .ref a), (1, .ref (zB + t))]) (st' := [.int (x21 - x22)]) (h' := h) rfl ?_
  refine zh zJ_204 (i := (2, 1, 0, 0)) rfl rfl (k' := 6) (lo' := [(0, .ref a), (1, .ref (zB + t))]) (st' := [.ref (zB + t), .int (x21 - x22)]) (h' := h) rfl ?_
  refine zh_slen zJ_204 (a := 0) (b := 0) (z := 0) rfl (k' := 7) rfl (by omega) (Nat.le_of_ble_eq_true rfl) hq rfl ?_
  refine zh_icmp zJ_204 (a := 10) (b := 1) (z := 0) rfl (fun hc23 => ?_) (fun hc23 => ?_)
  · refine zh zJ_204 (i := (0, 0, 0, 0)) rfl rfl (k' := 11) (lo' := [(0, .ref a), (1, .ref (zB + t))]) (st' := [.int (Int32.ofInt (0))]) (h' := h) rfl ?_
    refine zh zJ_204 (i := (4, 2, 0, 0)) rfl rfl (k' := 12) (lo' := [(2, .int (Int32.ofInt (0))), (0, .ref a), (1, .ref (zB + t))]) (st' := []) (h' := h) rfl ?_
    refine zh zJ_204 (i := (0, 0, 0, 0)) rfl rfl (k' := 13) (lo' := [(2, .int (Int32.ofInt (0))), (0, .ref a), (1, .ref (zB + t))]) (st' := [.int (Int32.ofInt (0))]) (h' := h) rfl ?_
    refine zh zJ_204 (i := (4, 3, 0, 0)) rfl rfl (k' := 14) (lo' := [(3, .int (Int32.ofInt (0))), (2, .int (Int32.ofInt (0))), (0, .ref a), (1, .ref (zB + t))]) (st' := []) (h' := h) rfl ?_
    refine zh zJ_204 (i := (1, 2, 0, 0)) rfl rfl (k' := 15) (lo' := [(3, .int (Int32.ofInt (0))), (2, .int (Int32.ofInt (0))), (0, .ref a), (1, .ref (zB + t))]) (st' := [.int (Int32.ofInt (0))]) (h' := h) rfl ?_
    refine zh_if zJ_204 (a := 37) (b := 0) (z := 0) rfl (fun hc24 => ?_) (fun hc24 => ?_)
    · refine zh zJ_204 (i := (1, 2, 0, 0)) rfl rfl (k' := 38) (lo' := [(3, .int (Int32.ofInt (0))), (2, .int (Int32.ofInt (0))), (0, .ref a), (1, .ref (zB + t))]) (st' := [.int (Int32.ofInt (0))]) (h' := h) rfl ?_
      refine zh_iret zJ_204 (a := 0) (b := 0) (z := 0) rfl (Or.inr ⟨rfl, Or.inl rfl⟩) ?_
      exact ⟨_, rfl, rfl, rfl, rfl, _, rfl, Or.inl rfl⟩
    · exact absurd (show z_cmp 0 (Int32.ofInt (0)) 0 = true from rfl) hc24
  · refine zh zJ_204 (i := (0, 0, 0, 1)) rfl rfl (k' := 9) (lo' := [(0, .ref a), (1, .ref (zB + t))]) (st' := [.int (Int32.ofInt (1))]) (h' := h) rfl ?_
    refine zh zJ_204 (i := (30, 11, 0, 0)) rfl rfl (k' := 11) (lo' := [(0, .ref a), (1, .ref (zB + t))]) (st' := [.int (Int32.ofInt (1))]) (h' := h) rfl ?_
    refine zh zJ_204 (i := (4, 2, 0, 0)) rfl rfl (k' := 12) (lo' := [(2, .int (Int32.ofInt (1))), (0, .ref a), (1, .ref (zB + t))]) (st' := []) (h' := h) rfl ?_
    refine zh zJ_204 (i := (0, 0, 0, 0)) rfl rfl (k' := 13) (lo' := [(2, .int (Int32.ofInt (1))), (0, .ref a), (1, .ref (zB + t))]) (st' := [.int (Int32.ofInt (0))]) (h' := h) rfl ?_
    refine zh zJ_204 (i := (4, 3, 0, 0)) rfl rfl (k' := 14) (lo' := [(3, .int (Int32.ofInt (0))), (2, .int (Int32.ofInt (1))), (0, .ref a), (1, .ref (zB + t))]) (st' := []) (h' := h) rfl ?_
    have hh : (x21 - x22).toInt = (Int32.ofNat q.2.2.2.length).toInt := by
      by_cases hh : (x21 - x22).toInt = (Int32.ofNat q.2.2.2.length).toInt
      · exact hh
      · exact absurd (zcmp_ne.mpr hh) hc23
    rw [zI_sub ex21 ex22 (by omega) (by omega), zofNat (by omega)] at hh
    obtain ⟨T, -, -, ha, hw, hb, hg, fs, he, hl, f1, f8, ⟨x11, g11, e11⟩, ⟨x10, g10, e10⟩, ⟨x12, g12, e12⟩, -⟩ := H
    obtain ⟨f, hf⟩ := zcell2 (n := 400) T hb rfl rfl
    exact zLp_204 hd hq hn he f8 g12 (by omega) (by omega) hf (fun c hc => ⟨_, rfl, rfl, rfl, rfl, c, rfl, hc.imp id (fun e => ⟨e, by omega⟩)⟩) _ 0 _ _ (Nat.zero_add _) rfl (Or.inr ⟨rfl, by omega⟩)
theorem zJ_205 : zJ3 205 z_m205 z_c205 z_h205 := ⟨rfl, rfl, rfl⟩
set_option maxRecDepth 100000 in
theorem zS_205 {sx : zX} {ty : List Nat} {h0 : zH} {a w b E : Nat} {P Q D S d t : Nat} {g : Nat → Int32} {h : zH} {q : String × Nat × String × List Int32} (hd : 9 ≤ d) (hq : z_strs[t]? = some q) (hn : q.2.2.2.length ≤ 100) (hn1 : 1 ≤ q.2.2.2.length) (H : zPS ty h0 a w b E P Q D S g h) : z_ok sx d 205 0 (lv_args 0 [.ref a, .ref (zB + t)]) [] h (zRq (zLk ty h0 a w b E P D S g)) := by
  show z_ok sx d 205 0 [(0, .ref a), (1, .ref (zB + t))] [] h _
  refine zh zJ_205 (i := (2, 0, 0, 0)) rfl rfl (k' := 1) (lo' := [(0, .ref a), (1, .ref (zB + t))]) (st' := [.ref a]) (h' := h) rfl ?_
  refine zcl (xs := []) (rest := []) H zJ_205 rfl (k' := 2) rfl (by omega) rfl rfl (Nat.le_of_ble_eq_true rfl) (M' := z_m203) rfl (Nat.le_of_ble_eq_true rfl) (zS_203 (by omega) H) (fun v h25 q => ?_)
  obtain ⟨rfl, P1, Q1, h1, h2, H1⟩ := q
  show z_ok sx d 205 2 [(0, .ref a), (1, .ref (zB + t))] [] h25 _
  refine zh zJ_205 (i := (2, 0, 0, 0)) rfl rfl (k' := 3) (lo' := [(0, .ref a), (1, .ref (zB + t))]) (st' := [.ref a]) (h' := h25) rfl ?_
  refine zh zJ_205 (i := (2, 1, 0, 0)) rfl rfl (k' := 4) (lo' := [(0, .ref a), (1, .ref (zB + t))]) (st' := [.ref (zB + t), .ref a]) (h' := h25) rfl ?_
  refine zcl (xs := [.ref (zB + t)]) (rest := []) H1 zJ_205 rfl (k' := 5) rfl (by omega) rfl rfl (Nat.le_of_ble_eq_true rfl) (M' := z_m204) rfl (Nat.le_of_ble_eq_true rfl) (zS_204 (by omega) hq hn hn1 H1) (fun v h26 q => ?_)
  obtain ⟨rfl, c, rfl, hc⟩ := q
  show z_ok sx d 205 5 [(0, .ref a), (1, .ref (zB + t))] [.int c] h26 _
  refine zh_if zJ_205 (a := 8) (b := 0) (z := 0) rfl (fun hc27 => ?_) (fun hc27 => ?_)
  · refine zh zJ_205 (i := (2, 0, 0, 0)) rfl rfl (k' := 9) (lo' := [(0, .ref a), (1, .ref (zB + t))]) (st' := [.ref a]) (h' := h26) rfl ?_
    refine zh zJ_205 (i := (2, 0, 0, 0)) rfl rfl (k' := 10) (lo' := [(0, .ref a), (1, .ref (zB + t))]) (st' := [.ref a, .ref a]) (h' := h26) rfl ?_
    refine zg12 H1 zJ_205 rfl (k' := 11) rfl (fun x28 ex28 => ?_)
    refine zp10 H1 zJ_205 rfl (k' := 12) rfl (Q1) ex28 (by have := H1.bd; omega) (fun h29 Hh29 => ?_)
    refine zh zJ_205 (i := (0, 0, 0, 0)) rfl rfl (k' := 13) (lo' := [(0, .ref a), (1, .ref (zB + t))]) (st' := [.int (Int32.ofInt (0))]) (h' := h29) rfl ?_
    refine zh_iret zJ_205 (a := 0) (b := 0) (z := 0) rfl (Or.inr ⟨rfl, Or.inl rfl⟩) ?_
    exact ⟨_, rfl, rfl, rfl, _, Q1, Q1, rfl, Hh29, h1, Or.inl rfl⟩
  · have hlt := (hc.resolve_left (fun e => hc27 (by rw [e]; rfl))).2
    refine zh zJ_205 (i := (0, 0, 0, 1)) rfl rfl (k' := 7) (lo' := [(0, .ref a), (1, .ref (zB + t))]) (st' := [.int (Int32.ofInt (1))]) (h' := h26) rfl ?_
    refine zh_iret zJ_205 (a := 0) (b := 0) (z := 0) rfl (Or.inr ⟨rfl, Or.inr rfl⟩) ?_
    exact ⟨_, rfl, rfl, rfl, _, P1, Q1, rfl, H1, by omega, Or.inr ⟨rfl, by omega⟩⟩
theorem zJ_206 : zJ3 206 z_m206 z_c206 z_h206 := ⟨rfl, rfl, rfl⟩
set_option maxRecDepth 100000 in
theorem zS_206 {sx : zX} {ty : List Nat} {h0 : zH} {a w b E : Nat} {P Q D S d : Nat} {g : Nat → Int32} {h : zH} (hd : 3 ≤ d) (u : Int32) (H : zPS ty h0 a w b E P Q D S g h) : z_ok sx d 206 0 (lv_args 0 [.ref a, .int u]) [] h (zRq (zLk ty h0 a w b E P D S g)) := by
  show z_ok sx d 206 0 [(0, .ref a), (1, .int u)] [] h _
  refine zh zJ_206 (i := (2, 0, 0, 0)) rfl rfl (k' := 1) (lo' := [(0, .ref a), (1, .int u)]) (st' := [.ref a]) (h' := h) rfl ?_
  refine zcl (xs := []) (rest := []) H zJ_206 rfl (k' := 2) rfl (by omega) rfl rfl (Nat.le_of_ble_eq_true rfl) (M' := z_m202) rfl (Nat.le_of_ble_eq_true rfl) (zS_202 (by omega) H) (fun v h30 q => ?_)
  obtain ⟨rfl, P1, h1, H1⟩ := q
  obtain ⟨bE, bP, bQ, bD, bS⟩ := H1.bd
  show z_ok sx d 206 2 [(0, .ref a), (1, .int u)] [] h30 _
  refine zh zJ_206 (i := (2, 0, 0, 0)) rfl rfl (k' := 3) (lo' := [(0, .ref a), (1, .int u)]) (st' := [.ref a]) (h' := h30) rfl ?_
  refine zh zJ_206 (i := (1, 1, 0, 0)) rfl rfl (k' := 4) (lo' := [(0, .ref a), (1, .int u)]) (st' := [.int u, .ref a]) (h' := h30) rfl ?_
  refine zh zJ_206 (i := (1, 1, 0, 0)) rfl rfl (k' := 5) (lo' := [(0, .ref a), (1, .int u)]) (st' := [.int u, .int u, .ref a]) (h' := h30) rfl ?_
  refine zcl (xs := [.int u, .int u]) (rest := []) H1 zJ_206 rfl (k' := 6) rfl (by omega) rfl rfl (Nat.le_of_ble_eq_true rfl) (M' := z_m201) rfl (Nat.le_of_ble_eq_true rfl) (zS_201 H1 _ _) (fun v h31 q => ?_)
  obtain ⟨rfl, c, rfl, hc⟩ := q
  show z_ok sx d 206 6 [(0, .ref a), (1, .int u)] [.int c] h31 _
  refine zh_if zJ_206 (a := 9) (b := 1) (z := 0) rfl (fun hc32 => ?_) (fun hc32 => ?_)
  · have hlt : P1 < E := (hc.resolve_left (fun e => zcmp_ne.mp hc32 (by rw [e]))).2
    refine zh zJ_206 (i := (2, 0, 0, 0)) rfl rfl (k' := 10) (lo' := [(0, .ref a), (1, .int u)]) (st' := [.ref a]) (h' := h31) rfl ?_
    refine zh zJ_206 (i := (27, 0, 0, 0)) rfl rfl (k' := 11) (lo' := [(0, .ref a), (1, .int u)]) (st' := [.ref a, .ref a]) (h' := h31) rfl ?_
    refine zg10 H1 zJ_206 rfl (k' := 12) rfl (fun x33 ex33 => ?_)
    refine zh zJ_206 (i := (0, 0, 0, 1)) rfl rfl (k' := 13) (lo' := [(0, .ref a), (1, .int u)]) (st' := [.int (Int32.ofInt (1)), .int x33, .ref a]) (h' := h31) rfl ?_
    refine zh zJ_206 (i := (8, 0, 0, 0)) rfl rfl (k' := 14) (lo' := [(0, .ref a), (1, .int u)]) (st' := [.int (x33 + (Int32.ofInt (1))), .ref a]) (h' := h31) rfl ?_
    refine zp10 H1 zJ_206 rfl (k' := 15) rfl (P1 + 1) (by rw [zI_add ex33 (zI_c (by decide) (by decide)) (by omega) (by omega)]; omega) (by omega) (fun h34 Hh34 => ?_)
    refine zh zJ_206 (i := (0, 0, 0, 1)) rfl rfl (k' := 16) (lo' := [(0, .ref a), (1, .int u)]) (st' := [.int (Int32.ofInt (1))]) (h' := h34) rfl ?_
    refine zh_iret zJ_206 (a := 0) (b := 0) (z := 0) rfl (Or.inr ⟨rfl, Or.inr rfl⟩) ?_
    exact ⟨_, rfl, rfl, rfl, _, P1 + 1, P1, rfl, Hh34, by omega, Or.inr ⟨rfl, by omega⟩⟩
  · refine zh zJ_206 (i := (0, 0, 0, 0)) rfl rfl (k' := 8) (lo' := [(0, .ref a), (1, .int u)]) (st' := [.int (Int32.ofInt (0))]) (h' := h31) rfl ?_
    refine zh_iret zJ_206 (a := 0) (b := 0) (z := 0) rfl (Or.inr ⟨rfl, Or.inl rfl⟩) ?_
    exact ⟨_, rfl, rfl, rfl, _, P1, P1, rfl, H1, h1, Or.inl rfl⟩
theorem zJ_207 : zJ3 207 z_m207 z_c207 z_h207 := ⟨rfl, rfl, rfl⟩
set_option maxRecDepth 100000 in
theorem zLp_207 {sx : zX} {ty : List Nat} {h0 : zH} {a w b E : Nat} {Q D S d P0 : Nat} {g : Nat → Int32} {u v : Int32} (hd : 2 ≤ d ∧ P0 ≤ Q) : ∀ (r P : Nat) (m : Int32) (h : zH), P + r = 400 → Q ≤ P → zPS ty h0 a w b E P Q D S g h → z_ok sx d 207 4 [(3, .int m), (0, .ref a), (1, .int u), (2, .int v)] [] h (zRq (fun r h' => ∃ (c : Int32) (P' Q' : Nat), r = some (.int c) ∧ zPS ty h0 a w b E P' Q' D S g h' ∧ P0 ≤ P' ∧ (c.toInt < 0 ∨ P0 + 1 ≤ P')))
  | r, P, m, h, hr, hP, H => by
    obtain ⟨bE, bP, bQ, bD, bS⟩ := H.bd
    have hd1 := hd.1
    have h00 := hd.2
    refine zh zJ_207 (i := (2, 0, 0, 0)) rfl rfl (k' := 5) (lo' := [(3, .int m), (0, .ref a), (1, .int u), (2, .int v)]) (st' := [.ref a]) (h' := h) rfl ?_
    refine zh zJ_207 (i := (0, 0, 0, 48)) rfl rfl (k' := 6) (lo' := [(3, .int m), (0, .ref a), (1, .int u), (2, .int v)]) (st' := [.int (Int32.ofInt (48)), .ref a]) (h' := h) rfl ?_
    refine zh zJ_207 (i := (0, 0, 0, 57)) rfl rfl (k' := 7) (lo' := [(3, .int m), (0, .ref a), (1, .int u), (2, .int v)]) (st' := [.int (Int32.ofInt (57)), .int (Int32.ofInt (48)), .ref a]) (h' := h) rfl ?_
    refine zcl (xs := [.int (Int32.ofInt (57)), .int (Int32.ofInt (48))]) (rest := []) H zJ_207 rfl (k' := 8) rfl (by omega) rfl rfl (Nat.le_of_ble_eq_true rfl) (M' := z_m201) rfl (Nat.le_of_ble_eq_true rfl) (zS_201 H _ _) (fun v h35 q => ?_)
    obtain ⟨rfl, c, rfl, hc⟩ := q
    show z_ok sx d 207 8 [(3, .int m), (0, .ref a), (1, .int u), (2, .int v)] [.int c] h35 _
    refine zh_if zJ_207 (a := 37) (b := 0) (z := 0) rfl (fun hc36 => ?_) (fun hc36 => ?_)
    · refine zh zJ_207 (i := (2, 0, 0, 0)) rfl rfl (k' := 38) (lo' := [(3, .int m), (0, .ref a), (1, .int u), (2, .int v)]) (st' := [.ref a]) (h' := h35) rfl ?_
      refine zg10 H zJ_207 rfl (k' := 39) rfl (fun x37 ex37 => ?_)
      refine zh zJ_207 (i := (2, 0, 0, 0)) rfl rfl (k' := 40) (lo' := [(3, .int m), (0, .ref a), (1, .int u), (2, .int v)]) (st' := [.ref a, .int x37]) (h' := h35) rfl ?_
      refine zg12 H zJ_207 rfl (k' := 41) rfl (fun x38 ex38 => ?_)
      refine zh_icmp zJ_207 (a := 55) (b := 0) (z := 0) rfl (fun hc39 => ?_) (fun hc39 => ?_)
      · refine zh zJ_207 (i := (0, 0, 0, -1)) rfl rfl (k' := 56) (lo' := [(3, .int m), (0, .ref a), (1, .int u), (2, .int v)]) (st' := [.int (Int32.ofInt (-1))]) (h' := h35) rfl ?_
        refine zh zJ_207 (i := (30, 58, 0, 0)) rfl rfl (k' := 58) (lo' := [(3, .int m), (0, .ref a), (1, .int u), (2, .int v)]) (st' := [.int (Int32.ofInt (-1))]) (h' := h35) rfl ?_
        refine zh_iret zJ_207 (a := 0) (b := 0) (z := 0) rfl (Or.inl rfl) ?_
        exact ⟨_, rfl, rfl, rfl, _, P, Q, rfl, H, by omega, Or.inl (by decide)⟩
      · have hne : Q < P := (by have := mt zcmp_eq.mpr hc39; omega)
        refine zh zJ_207 (i := (2, 0, 0, 0)) rfl rfl (k' := 43) (lo' := [(3, .int m), (0, .ref a), (1, .int u), (2, .int v)]) (st' := [.ref a]) (h' := h35) rfl ?_
        refine zg10 H zJ_207 rfl (k' := 44) rfl (fun x40 ex40 => ?_)
        refine zh zJ_207 (i := (2, 0, 0, 0)) rfl rfl (k' := 45) (lo' := [(3, .int m), (0, .ref a), (1, .int u), (2, .int v)]) (st' := [.ref a, .int x40]) (h' := h35) rfl ?_
        refine zg12 H zJ_207 rfl (k' := 46) rfl (fun x41 ex41 => ?_)
        refine zh zJ_207 (i := (9, 0, 0, 0)) rfl rfl (k' := 47) (lo' := [(3, .int m), (0, .ref a), (1, .int u), (2, .int v)]) (st' := [.int (x40 - x41)]) (h' := h35) rfl ?_
        refine zh zJ_207 (i := (0, 0, 0, 3)) rfl rfl (k' := 48) (lo' := [(3, .int m), (0, .ref a), (1, .int u), (2, .int v)]) (st' := [.int (Int32.ofInt (3)), .int (x40 - x41)]) (h' := h35) rfl ?_
        refine zh_icmp zJ_207 (a := 55) (b := 4) (z := 0) rfl (fun hc42 => ?_) (fun hc42 => ?_)
        · refine zh zJ_207 (i := (0, 0, 0, -1)) rfl rfl (k' := 56) (lo' := [(3, .int m), (0, .ref a), (1, .int u), (2, .int v)]) (st' := [.int (Int32.ofInt (-1))]) (h' := h35) rfl ?_
          refine zh zJ_207 (i := (30, 58, 0, 0)) rfl rfl (k' := 58) (lo' := [(3, .int m), (0, .ref a), (1, .int u), (2, .int v)]) (st' := [.int (Int32.ofInt (-1))]) (h' := h35) rfl ?_
          refine zh_iret zJ_207 (a := 0) (b := 0) (z := 0) rfl (Or.inl rfl) ?_
          exact ⟨_, rfl, rfl, rfl, _, P, Q, rfl, H, by omega, Or.inl (by decide)⟩
        · refine zh zJ_207 (i := (1, 3, 0, 0)) rfl rfl (k' := 50) (lo' := [(3, .int m), (0, .ref a), (1, .int u), (2, .int v)]) (st' := [.int m]) (h' := h35) rfl ?_
          refine zh zJ_207 (i := (1, 1, 0, 0)) rfl rfl (k' := 51) (lo' := [(3, .int m), (0, .ref a), (1, .int u), (2, .int v)]) (st' := [.int u, .int m]) (h' := h35) rfl ?_
          refine zh_icmp zJ_207 (a := 55) (b := 2) (z := 0) rfl (fun hc43 => ?_) (fun hc43 => ?_)
          · refine zh zJ_207 (i := (0, 0, 0, -1)) rfl rfl (k' := 56) (lo' := [(3, .int m), (0, .ref a), (1, .int u), (2, .int v)]) (st' := [.int (Int32.ofInt (-1))]) (h' := h35) rfl ?_
            refine zh zJ_207 (i := (30, 58, 0, 0)) rfl rfl (k' := 58) (lo' := [(3, .int m), (0, .ref a), (1, .int u), (2, .int v)]) (st' := [.int (Int32.ofInt (-1))]) (h' := h35) rfl ?_
            refine zh_iret zJ_207 (a := 0) (b := 0) (z := 0) rfl (Or.inl rfl) ?_
            exact ⟨_, rfl, rfl, rfl, _, P, Q, rfl, H, by omega, Or.inl (by decide)⟩
          · refine zh zJ_207 (i := (1, 3, 0, 0)) rfl rfl (k' := 53) (lo' := [(3, .int m), (0, .ref a), (1, .int u), (2, .int v)]) (st' := [.int m]) (h' := h35) rfl ?_
            refine zh zJ_207 (i := (1, 2, 0, 0)) rfl rfl (k' := 54) (lo' := [(3, .int m), (0, .ref a), (1, .int u), (2, .int v)]) (st' := [.int v, .int m]) (h' := h35) rfl ?_
            refine zh_icmp zJ_207 (a := 57) (b := 5) (z := 0) rfl (fun hc44 => ?_) (fun hc44 => ?_)
            · refine zh zJ_207 (i := (1, 3, 0, 0)) rfl rfl (k' := 58) (lo' := [(3, .int m), (0, .ref a), (1, .int u), (2, .int v)]) (st' := [.int m]) (h' := h35) rfl ?_
              refine zh_iret zJ_207 (a := 0) (b := 0) (z := 0) rfl (Or.inl rfl) ?_
              exact ⟨_, rfl, rfl, rfl, _, P, Q, rfl, H, by omega, Or.inr (by omega)⟩
            · refine zh zJ_207 (i := (0, 0, 0, -1)) rfl rfl (k' := 56) (lo' := [(3, .int m), (0, .ref a), (1, .int u), (2, .int v)]) (st' := [.int (Int32.ofInt (-1))]) (h' := h35) rfl ?_
              refine zh zJ_207 (i := (30, 58, 0, 0)) rfl rfl (k' := 58) (lo' := [(3, .int m), (0, .ref a), (1, .int u), (2, .int v)]) (st' := [.int (Int32.ofInt (-1))]) (h' := h35) rfl ?_
              refine zh_iret zJ_207 (a := 0) (b := 0) (z := 0) rfl (Or.inl rfl) ?_
              exact ⟨_, rfl, rfl, rfl, _, P, Q, rfl, H, by omega, Or.inl (by decide)⟩
    · have hlt : P < E := (hc.resolve_left (fun e => hc36 (by rw [e]; rfl))).2
      obtain ⟨r, rfl⟩ : ∃ r', r = r' + 1 := ⟨r - 1, by omega⟩
      refine zh zJ_207 (i := (2, 0, 0, 0)) rfl rfl (k' := 10) (lo' := [(3, .int m), (0, .ref a), (1, .int u), (2, .int v)]) (st' := [.ref a]) (h' := h35) rfl ?_
      refine zg10 H zJ_207 rfl (k' := 11) rfl (fun x45 ex45 => ?_)
      refine zh zJ_207 (i := (2, 0, 0, 0)) rfl rfl (k' := 12) (lo' := [(3, .int m), (0, .ref a), (1, .int u), (2, .int v)]) (st' := [.ref a, .int x45]) (h' := h35) rfl ?_
      refine zg12 H zJ_207 rfl (k' := 13) rfl (fun x46 ex46 => ?_)
      refine zh zJ_207 (i := (9, 0, 0, 0)) rfl rfl (k' := 14) (lo' := [(3, .int m), (0, .ref a), (1, .int u), (2, .int v)]) (st' := [.int (x45 - x46)]) (h' := h35) rfl ?_
      refine zh zJ_207 (i := (0, 0, 0, 3)) rfl rfl (k' := 15) (lo' := [(3, .int m), (0, .ref a), (1, .int u), (2, .int v)]) (st' := [.int (Int32.ofInt (3)), .int (x45 - x46)]) (h' := h35) rfl ?_
      refine zh_icmp zJ_207 (a := 28) (b := 3) (z := 0) rfl (fun hc47 => ?_) (fun hc47 => ?_)
      · refine zh zJ_207 (i := (1, 3, 0, 0)) rfl rfl (k' := 29) (lo' := [(3, .int m), (0, .ref a), (1, .int u), (2, .int v)]) (st' := [.int m]) (h' := h35) rfl ?_
        refine zh zJ_207 (i := (4, 3, 0, 0)) rfl rfl (k' := 30) (lo' := [(3, .int m), (0, .ref a), (1, .int u), (2, .int v)]) (st' := []) (h' := h35) rfl ?_
        refine zh zJ_207 (i := (2, 0, 0, 0)) rfl rfl (k' := 31) (lo' := [(3, .int m), (0, .ref a), (1, .int u), (2, .int v)]) (st' := [.ref a]) (h' := h35) rfl ?_
        refine zh zJ_207 (i := (27, 0, 0, 0)) rfl rfl (k' := 32) (lo' := [(3, .int m), (0, .ref a), (1, .int u), (2, .int v)]) (st' := [.ref a, .ref a]) (h' := h35) rfl ?_
        refine zg10 H zJ_207 rfl (k' := 33) rfl (fun x48 ex48 => ?_)
        refine zh zJ_207 (i := (0, 0, 0, 1)) rfl rfl (k' := 34) (lo' := [(3, .int m), (0, .ref a), (1, .int u), (2, .int v)]) (st' := [.int (Int32.ofInt (1)), .int x48, .ref a]) (h' := h35) rfl ?_
        refine zh zJ_207 (i := (8, 0, 0, 0)) rfl rfl (k' := 35) (lo' := [(3, .int m), (0, .ref a), (1, .int u), (2, .int v)]) (st' := [.int (x48 + (Int32.ofInt (1))), .ref a]) (h' := h35) rfl ?_
        refine zp10 H zJ_207 rfl (k' := 36) rfl (P + 1) (by rw [zI_add ex48 (zI_c (by decide) (by decide)) (by omega) (by omega)]; omega) (by omega) (fun h49 Hh49 => ?_)
        refine zh zJ_207 (i := (30, 4, 0, 0)) rfl rfl (k' := 4) (lo' := [(3, .int m), (0, .ref a), (1, .int u), (2, .int v)]) (st' := []) (h' := h49) rfl ?_
        exact zLp_207 hd r (P + 1) _ _ (by omega) (by omega) Hh49
      · refine zh zJ_207 (i := (0, 0, 0, 10)) rfl rfl (k' := 17) (lo' := [(3, .int m), (0, .ref a), (1, .int u), (2, .int v)]) (st' := [.int (Int32.ofInt (10))]) (h' := h35) rfl ?_
        refine zh zJ_207 (i := (1, 3, 0, 0)) rfl rfl (k' := 18) (lo' := [(3, .int m), (0, .ref a), (1, .int u), (2, .int v)]) (st' := [.int m, .int (Int32.ofInt (10))]) (h' := h35) rfl ?_
        refine zh zJ_207 (i := (10, 0, 0, 0)) rfl rfl (k' := 19) (lo' := [(3, .int m), (0, .ref a), (1, .int u), (2, .int v)]) (st' := [.int ((Int32.ofInt (10)) * m)]) (h' := h35) rfl ?_
        refine zh zJ_207 (i := (2, 0, 0, 0)) rfl rfl (k' := 20) (lo' := [(3, .int m), (0, .ref a), (1, .int u), (2, .int v)]) (st' := [.ref a, .int ((Int32.ofInt (10)) * m)]) (h' := h35) rfl ?_
        refine zg8 H zJ_207 rfl (k' := 21) rfl ?_
        refine zh zJ_207 (i := (2, 0, 0, 0)) rfl rfl (k' := 22) (lo' := [(3, .int m), (0, .ref a), (1, .int u), (2, .int v)]) (st' := [.ref a, .ref b, .int ((Int32.ofInt (10)) * m)]) (h' := h35) rfl ?_
        refine zg10 H zJ_207 rfl (k' := 23) rfl (fun x50 ex50 => ?_)
        refine zlb H zJ_207 rfl (k' := 24) rfl (P) ex50 (by omega) (fun c51 => ?_)
        refine zh zJ_207 (i := (8, 0, 0, 0)) rfl rfl (k' := 25) (lo' := [(3, .int m), (0, .ref a), (1, .int u), (2, .int v)]) (st' := [.int (((Int32.ofInt (10)) * m) + c51)]) (h' := h35) rfl ?_
        refine zh zJ_207 (i := (0, 0, 0, 48)) rfl rfl (k' := 26) (lo' := [(3, .int m), (0, .ref a), (1, .int u), (2, .int v)]) (st' := [.int (Int32.ofInt (48)), .int (((Int32.ofInt (10)) * m) + c51)]) (h' := h35) rfl ?_
        refine zh zJ_207 (i := (9, 0, 0, 0)) rfl rfl (k' := 27) (lo' := [(3, .int m), (0, .ref a), (1, .int u), (2, .int v)]) (st' := [.int ((((Int32.ofInt (10)) * m) + c51) - (Int32.ofInt (48)))]) (h' := h35) rfl ?_
        refine zh zJ_207 (i := (30, 29, 0, 0)) rfl rfl (k' := 29) (lo' := [(3, .int m), (0, .ref a), (1, .int u), (2, .int v)]) (st' := [.int ((((Int32.ofInt (10)) * m) + c51) - (Int32.ofInt (48)))]) (h' := h35) rfl ?_
        refine zh zJ_207 (i := (4, 3, 0, 0)) rfl rfl (k' := 30) (lo' := [(3, .int ((((Int32.ofInt (10)) * m) + c51) - (Int32.ofInt (48)))), (0, .ref a), (1, .int u), (2, .int v)]) (st' := []) (h' := h35) rfl ?_
        refine zh zJ_207 (i := (2, 0, 0, 0)) rfl rfl (k' := 31) (lo' := [(3, .int ((((Int32.ofInt (10)) * m) + c51) - (Int32.ofInt (48)))), (0, .ref a), (1, .int u), (2, .int v)]) (st' := [.ref a]) (h' := h35) rfl ?_
        refine zh zJ_207 (i := (27, 0, 0, 0)) rfl rfl (k' := 32) (lo' := [(3, .int ((((Int32.ofInt (10)) * m) + c51) - (Int32.ofInt (48)))), (0, .ref a), (1, .int u), (2, .int v)]) (st' := [.ref a, .ref a]) (h' := h35) rfl ?_
        refine zg10 H zJ_207 rfl (k' := 33) rfl (fun x52 ex52 => ?_)
        refine zh zJ_207 (i := (0, 0, 0, 1)) rfl rfl (k' := 34) (lo' := [(3, .int ((((Int32.ofInt (10)) * m) + c51) - (Int32.ofInt (48)))), (0, .ref a), (1, .int u), (2, .int v)]) (st' := [.int (Int32.ofInt (1)), .int x52, .ref a]) (h' := h35) rfl ?_
        refine zh zJ_207 (i := (8, 0, 0, 0)) rfl rfl (k' := 35) (lo' := [(3, .int ((((Int32.ofInt (10)) * m) + c51) - (Int32.ofInt (48)))), (0, .ref a), (1, .int u), (2, .int v)]) (st' := [.int (x52 + (Int32.ofInt (1))), .ref a]) (h' := h35) rfl ?_
        refine zp10 H zJ_207 rfl (k' := 36) rfl (P + 1) (by rw [zI_add ex52 (zI_c (by decide) (by decide)) (by omega) (by omega)]; omega) (by omega) (fun h53 Hh53 => ?_)
        refine zh zJ_207 (i := (30, 4, 0, 0)) rfl rfl (k' := 4) (lo' := [(3, .int ((((Int32.ofInt (10)) * m) + c51) - (Int32.ofInt (48)))), (0, .ref a), (1, .int u), (2, .int v)]) (st' := []) (h' := h53) rfl ?_
        exact zLp_207 hd r (P + 1) _ _ (by omega) (by omega) Hh53
set_option maxRecDepth 100000 in
theorem zS_207 {sx : zX} {ty : List Nat} {h0 : zH} {a w b E : Nat} {P Q D S d : Nat} {g : Nat → Int32} {h : zH} (hd : 3 ≤ d) (u v : Int32) (H : zPS ty h0 a w b E P Q D S g h) : z_ok sx d 207 0 (lv_args 0 [.ref a, .int u, .int v]) [] h (zRq (fun r h' => ∃ (c : Int32) (P' Q' : Nat), r = some (.int c) ∧ zPS ty h0 a w b E P' Q' D S g h' ∧ P ≤ P' ∧ (c.toInt < 0 ∨ P + 1 ≤ P'))) := by
  show z_ok sx d 207 0 [(0, .ref a), (1, .int u), (2, .int v)] [] h _
  refine zh zJ_207 (i := (2, 0, 0, 0)) rfl rfl (k' := 1) (lo' := [(0, .ref a), (1, .int u), (2, .int v)]) (st' := [.ref a]) (h' := h) rfl ?_
  refine zcl (xs := []) (rest := []) H zJ_207 rfl (k' := 2) rfl (by omega) rfl rfl (Nat.le_of_ble_eq_true rfl) (M' := z_m202) rfl (Nat.le_of_ble_eq_true rfl) (zS_202 (by omega) H) (fun v h54 q => ?_)
  obtain ⟨rfl, P1, h1, H1⟩ := q
  show z_ok sx d 207 2 [(0, .ref a), (1, .int u), (2, .int v)] [] h54 _
  refine zh zJ_207 (i := (0, 0, 0, 0)) rfl rfl (k' := 3) (lo' := [(0, .ref a), (1, .int u), (2, .int v)]) (st' := [.int (Int32.ofInt (0))]) (h' := h54) rfl ?_
  refine zh zJ_207 (i := (4, 3, 0, 0)) rfl rfl (k' := 4) (lo' := [(3, .int (Int32.ofInt (0))), (0, .ref a), (1, .int u), (2, .int v)]) (st' := []) (h' := h54) rfl ?_
  exact zLp_207 ⟨by omega, h1⟩ (400 - P1) P1 _ _ (by have := H1.bd; omega) (Nat.le_refl _) H1
theorem zJ_221 : zJ3 221 z_m221 z_c221 z_h221 := ⟨rfl, rfl, rfl⟩
set_option maxRecDepth 100000 in
theorem zS_221 {sx : zX} {ty : List Nat} {h0 : zH} {a w b E : Nat} {P Q D S d : Nat} {g : Nat → Int32} {h : zH} (u v : Int32) (hS : S < 400) (H : zPS ty h0 a w b E P Q D S g h) : z_ok sx d 221 0 (lv_args 0 [.ref a, .int u, .int v]) [] h (zRq (fun r h' => r = none ∧ zPS ty h0 a w b E P Q D (S + 1) (zEm g S u v) h')) := by
  show z_ok sx d 221 0 [(0, .ref a), (1, .int u), (2, .int v)] [] h _
  refine zh zJ_221 (i := (2, 0, 0, 0)) rfl rfl (k' := 1) (lo' := [(0, .ref a), (1, .int u), (2, .int v)]) (st' := [.ref a]) (h' := h) rfl ?_
  refine zg1 H zJ_221 rfl (k' := 2) rfl ?_
  refine zh zJ_221 (i := (0, 0, 0, 1286)) rfl rfl (k' := 3) (lo' := [(0, .ref a), (1, .int u), (2, .int v)]) (st' := [.int (Int32.ofInt (1286)), .ref w]) (h' := h) rfl ?_
  refine zh zJ_221 (i := (0, 0, 0, 2)) rfl rfl (k' := 4) (lo' := [(0, .ref a), (1, .int u), (2, .int v)]) (st' := [.int (Int32.ofInt (2)), .int (Int32.ofInt (1286)), .ref w]) (h' := h) rfl ?_
  refine zh zJ_221 (i := (2, 0, 0, 0)) rfl rfl (k' := 5) (lo' := [(0, .ref a), (1, .int u), (2, .int v)]) (st' := [.ref a, .int (Int32.ofInt (2)), .int (Int32.ofInt (1286)), .ref w]) (h' := h) rfl ?_
  refine zg16 H zJ_221 rfl (k' := 6) rfl (fun x55 ex55 => ?_)
  have k1 : (Int32.ofInt (1286) + Int32.ofInt (2) * x55).toInt = ((1286 + 2 * S : Nat) : Int) := by
    rw [zI_add (zI_c (by decide) (by decide)) (zI_mul (zI_c (by decide) (by decide)) ex55 (by omega) (by omega)) (by omega) (by omega)]
    omega
  refine zh zJ_221 (i := (10, 0, 0, 0)) rfl rfl (k' := 7) (lo' := [(0, .ref a), (1, .int u), (2, .int v)]) (st' := [.int ((Int32.ofInt (2)) * x55), .int (Int32.ofInt (1286)), .ref w]) (h' := h) rfl ?_
  refine zh zJ_221 (i := (8, 0, 0, 0)) rfl rfl (k' := 8) (lo' := [(0, .ref a), (1, .int u), (2, .int v)]) (st' := [.int ((Int32.ofInt (1286)) + ((Int32.ofInt (2)) * x55)), .ref w]) (h' := h) rfl ?_
  refine zh zJ_221 (i := (1, 1, 0, 0)) rfl rfl (k' := 9) (lo' := [(0, .ref a), (1, .int u), (2, .int v)]) (st' := [.int u, .int ((Int32.ofInt (1286)) + ((Int32.ofInt (2)) * x55)), .ref w]) (h' := h) rfl ?_
  refine zpw H zJ_221 rfl (k' := 10) rfl (1286 + 2 * S) k1 (by omega) (by omega) (fun h56 Hh56 => ?_)
  refine zh zJ_221 (i := (2, 0, 0, 0)) rfl rfl (k' := 11) (lo' := [(0, .ref a), (1, .int u), (2, .int v)]) (st' := [.ref a]) (h' := h56) rfl ?_
  refine zg1 Hh56 zJ_221 rfl (k' := 12) rfl ?_
  refine zh zJ_221 (i := (0, 0, 0, 1286)) rfl rfl (k' := 13) (lo' := [(0, .ref a), (1, .int u), (2, .int v)]) (st' := [.int (Int32.ofInt (1286)), .ref w]) (h' := h56) rfl ?_
  refine zh zJ_221 (i := (0, 0, 0, 2)) rfl rfl (k' := 14) (lo' := [(0, .ref a), (1, .int u), (2, .int v)]) (st' := [.int (Int32.ofInt (2)), .int (Int32.ofInt (1286)), .ref w]) (h' := h56) rfl ?_
  refine zh zJ_221 (i := (2, 0, 0, 0)) rfl rfl (k' := 15) (lo' := [(0, .ref a), (1, .int u), (2, .int v)]) (st' := [.ref a, .int (Int32.ofInt (2)), .int (Int32.ofInt (1286)), .ref w]) (h' := h56) rfl ?_
  refine zg16 Hh56 zJ_221 rfl (k' := 16) rfl (fun x57 ex57 => ?_)
  have k2 : (Int32.ofInt (1286) + Int32.ofInt (2) * x57 + Int32.ofInt (1)).toInt = ((1287 + 2 * S : Nat) : Int) := by
    rw [zI_add (zI_add (zI_c (by decide) (by decide)) (zI_mul (zI_c (by decide) (by decide)) ex57 (by omega) (by omega)) (by omega) (by omega)) (zI_c (by decide) (by decide)) (by omega) (by omega)]
    omega
  refine zh zJ_221 (i := (10, 0, 0, 0)) rfl rfl (k' := 17) (lo' := [(0, .ref a), (1, .int u), (2, .int v)]) (st' := [.int ((Int32.ofInt (2)) * x57), .int (Int32.ofInt (1286)), .ref w]) (h' := h56) rfl ?_
  refine zh zJ_221 (i := (8, 0, 0, 0)) rfl rfl (k' := 18) (lo' := [(0, .ref a), (1, .int u), (2, .int v)]) (st' := [.int ((Int32.ofInt (1286)) + ((Int32.ofInt (2)) * x57)), .ref w]) (h' := h56) rfl ?_
  refine zh zJ_221 (i := (0, 0, 0, 1)) rfl rfl (k' := 19) (lo' := [(0, .ref a), (1, .int u), (2, .int v)]) (st' := [.int (Int32.ofInt (1)), .int ((Int32.ofInt (1286)) + ((Int32.ofInt (2)) * x57)), .ref w]) (h' := h56) rfl ?_
  refine zh zJ_221 (i := (8, 0, 0, 0)) rfl rfl (k' := 20) (lo' := [(0, .ref a), (1, .int u), (2, .int v)]) (st' := [.int (((Int32.ofInt (1286)) + ((Int32.ofInt (2)) * x57)) + (Int32.ofInt (1))), .ref w]) (h' := h56) rfl ?_
  refine zh zJ_221 (i := (1, 2, 0, 0)) rfl rfl (k' := 21) (lo' := [(0, .ref a), (1, .int u), (2, .int v)]) (st' := [.int v, .int (((Int32.ofInt (1286)) + ((Int32.ofInt (2)) * x57)) + (Int32.ofInt (1))), .ref w]) (h' := h56) rfl ?_
  refine zpw Hh56 zJ_221 rfl (k' := 22) rfl (1287 + 2 * S) k2 (by omega) (by omega) (fun h58 Hh58 => ?_)
  refine zh zJ_221 (i := (2, 0, 0, 0)) rfl rfl (k' := 23) (lo' := [(0, .ref a), (1, .int u), (2, .int v)]) (st' := [.ref a]) (h' := h58) rfl ?_
  refine zh zJ_221 (i := (27, 0, 0, 0)) rfl rfl (k' := 24) (lo' := [(0, .ref a), (1, .int u), (2, .int v)]) (st' := [.ref a, .ref a]) (h' := h58) rfl ?_
  refine zg16 Hh58 zJ_221 rfl (k' := 25) rfl (fun x59 ex59 => ?_)
  refine zh zJ_221 (i := (0, 0, 0, 1)) rfl rfl (k' := 26) (lo' := [(0, .ref a), (1, .int u), (2, .int v)]) (st' := [.int (Int32.ofInt (1)), .int x59, .ref a]) (h' := h58) rfl ?_
  refine zh zJ_221 (i := (8, 0, 0, 0)) rfl rfl (k' := 27) (lo' := [(0, .ref a), (1, .int u), (2, .int v)]) (st' := [.int (x59 + (Int32.ofInt (1))), .ref a]) (h' := h58) rfl ?_
  refine zp16 Hh58 zJ_221 rfl (k' := 28) rfl (S + 1) (by rw [zI_add ex59 (zI_c (by decide) (by decide)) (by omega) (by omega)]; omega) (by omega) (fun h60 Hh60 => ?_)
  refine zh_vret zJ_221 (a := 0) (b := 0) (z := 0) rfl ?_
  exact ⟨_, rfl, rfl, rfl, rfl, Hh60⟩
end
section
/-! the reference's reader: the grammar; printed with wip/gen/gen_rd3.py -/
theorem zJ_222 : zJ3 222 z_m222 z_c222 z_h222 := ⟨rfl, rfl, rfl⟩
set_option maxRecDepth 100000 in
theorem zTl_222 {sx : zX} {ty : List Nat} {h0 : zH} {a w b E : Nat} {P D S d : Nat} {g : Nat → Int32} {h : zH} {P1 Q1 S1 : Nat} {g1 : Nat → Int32} {v : Int32} (H : zPS ty h0 a w b E P1 Q1 D S1 g1 h) (hs : 0 ≤ v.toInt → S1 + P ≤ P1 + S ∧ zCd S g S1 g1 1) : z_ok sx d 222 59 [(1, .int v), (0, .ref a)] [] h (zRq (zGs ty h0 a w b E P D S g)) := by
  refine zh zJ_222 (i := (1, 1, 0, 0)) rfl rfl (k' := 60) (lo' := [(1, .int v), (0, .ref a)]) (st' := [.int v]) (h' := h) rfl ?_
  refine zh_if zJ_222 (a := 63) (b := 2) (z := 0) rfl (fun hc1 => ?_) (fun hc1 => ?_)
  · refine zh zJ_222 (i := (0, 0, 0, 0)) rfl rfl (k' := 64) (lo' := [(1, .int v), (0, .ref a)]) (st' := [.int (Int32.ofInt (0))]) (h' := h) rfl ?_
    refine zh_iret zJ_222 (a := 0) (b := 0) (z := 0) rfl (Or.inr ⟨rfl, Or.inl rfl⟩) ?_
    exact ⟨_, rfl, rfl, rfl, _, P1, Q1, D, S1, g1, rfl, H, Or.inl rfl⟩
  · have h0v : 0 ≤ v.toInt := (by have := mt zcmp_lt.mpr hc1; rw [show (0 : Int32).toInt = 0 from rfl] at this; omega)
    have h9 := hs h0v
    refine zh zJ_222 (i := (0, 0, 0, 1)) rfl rfl (k' := 62) (lo' := [(1, .int v), (0, .ref a)]) (st' := [.int (Int32.ofInt (1))]) (h' := h) rfl ?_
    refine zh zJ_222 (i := (30, 64, 0, 0)) rfl rfl (k' := 64) (lo' := [(1, .int v), (0, .ref a)]) (st' := [.int (Int32.ofInt (1))]) (h' := h) rfl ?_
    refine zh_iret zJ_222 (a := 0) (b := 0) (z := 0) rfl (Or.inr ⟨rfl, Or.inr rfl⟩) ?_
    exact ⟨_, rfl, rfl, rfl, _, P1, Q1, D, S1, g1, rfl, H, Or.inr ⟨rfl, rfl, h9.1, h9.2⟩⟩
set_option maxRecDepth 100000 in
theorem zTm_222 {sx : zX} {ty : List Nat} {h0 : zH} {a w b E : Nat} {P D S d : Nat} {g : Nat → Int32} {h : zH} {P1 Q1 : Nat} {v : Int32} (hd : 9 ≤ d) (H : zPS ty h0 a w b E P1 Q1 D S g h) (hv : v.toInt ≤ 8) (hP : P + 1 ≤ P1) (hS : S + 1 ≤ P) : z_ok sx d 222 54 [(0, .ref a)] [.int v] h (zRq (zGs ty h0 a w b E P D S g)) := by
  obtain ⟨bE, bP, bQ, bD, bS⟩ := H.bd
  refine zh zJ_222 (i := (4, 1, 0, 0)) rfl rfl (k' := 55) (lo' := [(1, .int v), (0, .ref a)]) (st' := []) (h' := h) rfl ?_
  refine zh zJ_222 (i := (2, 0, 0, 0)) rfl rfl (k' := 56) (lo' := [(1, .int v), (0, .ref a)]) (st' := [.ref a]) (h' := h) rfl ?_
  refine zh zJ_222 (i := (1, 1, 0, 0)) rfl rfl (k' := 57) (lo' := [(1, .int v), (0, .ref a)]) (st' := [.int v, .ref a]) (h' := h) rfl ?_
  refine zh zJ_222 (i := (0, 0, 0, 0)) rfl rfl (k' := 58) (lo' := [(1, .int v), (0, .ref a)]) (st' := [.int (Int32.ofInt (0)), .int v, .ref a]) (h' := h) rfl ?_
  refine zcl (xs := [.int (Int32.ofInt (0)), .int v]) (rest := []) H zJ_222 rfl (k' := 59) rfl (by omega) rfl rfl (Nat.le_of_ble_eq_true rfl) (M' := z_m221) rfl (Nat.le_of_ble_eq_true rfl) (zS_221 _ _ (by omega) H) (fun v h2 q => ?_)
  obtain ⟨rfl, H2⟩ := q
  show z_ok sx d 222 59 [(1, .int v), (0, .ref a)] [] h2 _
  exact zTl_222 H2 (fun h9 => ⟨by omega, zCd.push (by omega) hv⟩)
set_option maxRecDepth 100000 in
theorem zS_222 {sx : zX} {ty : List Nat} {h0 : zH} {a w b E : Nat} {P Q D S d : Nat} {g : Nat → Int32} {h : zH} (hd : 10 ≤ d) (hS : S + 1 ≤ P) (H : zPS ty h0 a w b E P Q D S g h) : z_ok sx d 222 0 (lv_args 0 [.ref a]) [] h (zRq (zGs ty h0 a w b E P D S g)) := by
  show z_ok sx d 222 0 [(0, .ref a)] [] h _
  refine zh zJ_222 (i := (2, 0, 0, 0)) rfl rfl (k' := 1) (lo' := [(0, .ref a)]) (st' := [.ref a]) (h' := h) rfl ?_
  refine zcl (xs := []) (rest := []) H zJ_222 rfl (k' := 2) rfl (by omega) rfl rfl (Nat.le_of_ble_eq_true rfl) (M' := z_m203) rfl (Nat.le_of_ble_eq_true rfl) (zS_203 (by omega) H) (fun v h3 q => ?_)
  obtain ⟨rfl, P1, Q1, h1, h2, H1⟩ := q
  show z_ok sx d 222 2 [(0, .ref a)] [] h3 _
  obtain ⟨bE, bP, bQ, bD, bS⟩ := H1.bd
  refine zh zJ_222 (i := (2, 0, 0, 0)) rfl rfl (k' := 3) (lo' := [(0, .ref a)]) (st' := [.ref a]) (h' := h3) rfl ?_
  refine zg10 H1 zJ_222 rfl (k' := 4) rfl (fun x4 ex4 => ?_)
  refine zh zJ_222 (i := (2, 0, 0, 0)) rfl rfl (k' := 5) (lo' := [(0, .ref a)]) (st' := [.ref a, .int x4]) (h' := h3) rfl ?_
  refine zg12 H1 zJ_222 rfl (k' := 6) rfl (fun x5 ex5 => ?_)
  refine zh_icmp zJ_222 (a := 17) (b := 1) (z := 0) rfl (fun hc6 => ?_) (fun hc6 => ?_)
  · have hne : Q1 < P1 := (by have := zcmp_ne.mp hc6; omega)
    refine zh zJ_222 (i := (2, 0, 0, 0)) rfl rfl (k' := 18) (lo' := [(0, .ref a)]) (st' := [.ref a]) (h' := h3) rfl ?_
    refine zldc zJ_222 rfl (k' := 19) rfl (by decide +kernel) ?_
    refine zcl (xs := [.ref (zB + 50)]) (rest := []) H1 zJ_222 rfl (k' := 20) rfl (by omega) rfl rfl (Nat.le_of_ble_eq_true rfl) (M' := z_m204) rfl (Nat.le_of_ble_eq_true rfl) (zS_204 (t := 50) (by omega) rfl (by decide) (by decide) H1) (fun v h9 q => ?_)
    obtain ⟨rfl, c, rfl, hc⟩ := q
    show z_ok sx d 222 20 [(0, .ref a)] [.int c] h9 _
    refine zh_if zJ_222 (a := 23) (b := 0) (z := 0) rfl (fun hc10 => ?_) (fun hc10 => ?_)
    · refine zh zJ_222 (i := (2, 0, 0, 0)) rfl rfl (k' := 24) (lo' := [(0, .ref a)]) (st' := [.ref a]) (h' := h9) rfl ?_
      refine zldc zJ_222 rfl (k' := 25) rfl (by decide +kernel) ?_
      refine zcl (xs := [.ref (zB + 57)]) (rest := []) H1 zJ_222 rfl (k' := 26) rfl (by omega) rfl rfl (Nat.le_of_ble_eq_true rfl) (M' := z_m204) rfl (Nat.le_of_ble_eq_true rfl) (zS_204 (t := 57) (by omega) rfl (by decide) (by decide) H1) (fun v h11 q => ?_)
      obtain ⟨rfl, c, rfl, hc⟩ := q
      show z_ok sx d 222 26 [(0, .ref a)] [.int c] h11 _
      refine zh_if zJ_222 (a := 29) (b := 0) (z := 0) rfl (fun hc12 => ?_) (fun hc12 => ?_)
      · refine zh zJ_222 (i := (2, 0, 0, 0)) rfl rfl (k' := 30) (lo' := [(0, .ref a)]) (st' := [.ref a]) (h' := h11) rfl ?_
        refine zldc zJ_222 rfl (k' := 31) rfl (by decide +kernel) ?_
        refine zcl (xs := [.ref (zB + 58)]) (rest := []) H1 zJ_222 rfl (k' := 32) rfl (by omega) rfl rfl (Nat.le_of_ble_eq_true rfl) (M' := z_m204) rfl (Nat.le_of_ble_eq_true rfl) (zS_204 (t := 58) (by omega) rfl (by decide) (by decide) H1) (fun v h13 q => ?_)
        obtain ⟨rfl, c, rfl, hc⟩ := q
        show z_ok sx d 222 32 [(0, .ref a)] [.int c] h13 _
        refine zh_if zJ_222 (a := 35) (b := 0) (z := 0) rfl (fun hc14 => ?_) (fun hc14 => ?_)
        · refine zh zJ_222 (i := (2, 0, 0, 0)) rfl rfl (k' := 36) (lo' := [(0, .ref a)]) (st' := [.ref a]) (h' := h13) rfl ?_
          refine zldc zJ_222 rfl (k' := 37) rfl (by decide +kernel) ?_
          refine zcl (xs := [.ref (zB + 59)]) (rest := []) H1 zJ_222 rfl (k' := 38) rfl (by omega) rfl rfl (Nat.le_of_ble_eq_true rfl) (M' := z_m204) rfl (Nat.le_of_ble_eq_true rfl) (zS_204 (t := 59) (by omega) rfl (by decide) (by decide) H1) (fun v h15 q => ?_)
          obtain ⟨rfl, c, rfl, hc⟩ := q
          show z_ok sx d 222 38 [(0, .ref a)] [.int c] h15 _
          refine zh_if zJ_222 (a := 41) (b := 0) (z := 0) rfl (fun hc16 => ?_) (fun hc16 => ?_)
          · refine zh zJ_222 (i := (2, 0, 0, 0)) rfl rfl (k' := 42) (lo' := [(0, .ref a)]) (st' := [.ref a]) (h' := h15) rfl ?_
            refine zldc zJ_222 rfl (k' := 43) rfl (by decide +kernel) ?_
            refine zcl (xs := [.ref (zB + 60)]) (rest := []) H1 zJ_222 rfl (k' := 44) rfl (by omega) rfl rfl (Nat.le_of_ble_eq_true rfl) (M' := z_m204) rfl (Nat.le_of_ble_eq_true rfl) (zS_204 (t := 60) (by omega) rfl (by decide) (by decide) H1) (fun v h17 q => ?_)
            obtain ⟨rfl, c, rfl, hc⟩ := q
            show z_ok sx d 222 44 [(0, .ref a)] [.int c] h17 _
            refine zh_if zJ_222 (a := 47) (b := 0) (z := 0) rfl (fun hc18 => ?_) (fun hc18 => ?_)
            · refine zh zJ_222 (i := (2, 0, 0, 0)) rfl rfl (k' := 48) (lo' := [(0, .ref a)]) (st' := [.ref a]) (h' := h17) rfl ?_
              refine zldc zJ_222 rfl (k' := 49) rfl (by decide +kernel) ?_
              refine zcl (xs := [.ref (zB + 49)]) (rest := []) H1 zJ_222 rfl (k' := 50) rfl (by omega) rfl rfl (Nat.le_of_ble_eq_true rfl) (M' := z_m204) rfl (Nat.le_of_ble_eq_true rfl) (zS_204 (t := 49) (by omega) rfl (by decide) (by decide) H1) (fun v h19 q => ?_)
              obtain ⟨rfl, c, rfl, hc⟩ := q
              show z_ok sx d 222 50 [(0, .ref a)] [.int c] h19 _
              refine zh_if zJ_222 (a := 53) (b := 0) (z := 0) rfl (fun hc20 => ?_) (fun hc20 => ?_)
              · refine zh zJ_222 (i := (0, 0, 0, -1)) rfl rfl (k' := 54) (lo' := [(0, .ref a)]) (st' := [.int (Int32.ofInt (-1))]) (h' := h19) rfl ?_
                exact zTm_222 (by omega) H1 (by decide) (by omega) (by omega)
              · refine zh zJ_222 (i := (0, 0, 0, 5)) rfl rfl (k' := 52) (lo' := [(0, .ref a)]) (st' := [.int (Int32.ofInt (5))]) (h' := h19) rfl ?_
                refine zh zJ_222 (i := (30, 54, 0, 0)) rfl rfl (k' := 54) (lo' := [(0, .ref a)]) (st' := [.int (Int32.ofInt (5))]) (h' := h19) rfl ?_
                exact zTm_222 (by omega) H1 (by decide) (by omega) (by omega)
            · refine zh zJ_222 (i := (0, 0, 0, 4)) rfl rfl (k' := 46) (lo' := [(0, .ref a)]) (st' := [.int (Int32.ofInt (4))]) (h' := h17) rfl ?_
              refine zh zJ_222 (i := (30, 54, 0, 0)) rfl rfl (k' := 54) (lo' := [(0, .ref a)]) (st' := [.int (Int32.ofInt (4))]) (h' := h17) rfl ?_
              exact zTm_222 (by omega) H1 (by decide) (by omega) (by omega)
          · refine zh zJ_222 (i := (0, 0, 0, 3)) rfl rfl (k' := 40) (lo' := [(0, .ref a)]) (st' := [.int (Int32.ofInt (3))]) (h' := h15) rfl ?_
            refine zh zJ_222 (i := (30, 54, 0, 0)) rfl rfl (k' := 54) (lo' := [(0, .ref a)]) (st' := [.int (Int32.ofInt (3))]) (h' := h15) rfl ?_
            exact zTm_222 (by omega) H1 (by decide) (by omega) (by omega)
        · refine zh zJ_222 (i := (0, 0, 0, 2)) rfl rfl (k' := 34) (lo' := [(0, .ref a)]) (st' := [.int (Int32.ofInt (2))]) (h' := h13) rfl ?_
          refine zh zJ_222 (i := (30, 54, 0, 0)) rfl rfl (k' := 54) (lo' := [(0, .ref a)]) (st' := [.int (Int32.ofInt (2))]) (h' := h13) rfl ?_
          exact zTm_222 (by omega) H1 (by decide) (by omega) (by omega)
      · refine zh zJ_222 (i := (0, 0, 0, 1)) rfl rfl (k' := 28) (lo' := [(0, .ref a)]) (st' := [.int (Int32.ofInt (1))]) (h' := h11) rfl ?_
        refine zh zJ_222 (i := (30, 54, 0, 0)) rfl rfl (k' := 54) (lo' := [(0, .ref a)]) (st' := [.int (Int32.ofInt (1))]) (h' := h11) rfl ?_
        exact zTm_222 (by omega) H1 (by decide) (by omega) (by omega)
    · refine zh zJ_222 (i := (0, 0, 0, 0)) rfl rfl (k' := 22) (lo' := [(0, .ref a)]) (st' := [.int (Int32.ofInt (0))]) (h' := h9) rfl ?_
      refine zh zJ_222 (i := (30, 54, 0, 0)) rfl rfl (k' := 54) (lo' := [(0, .ref a)]) (st' := [.int (Int32.ofInt (0))]) (h' := h9) rfl ?_
      exact zTm_222 (by omega) H1 (by decide) (by omega) (by omega)
  · refine zh zJ_222 (i := (2, 0, 0, 0)) rfl rfl (k' := 8) (lo' := [(0, .ref a)]) (st' := [.ref a]) (h' := h3) rfl ?_
    refine zh zJ_222 (i := (0, 0, 0, 0)) rfl rfl (k' := 9) (lo' := [(0, .ref a)]) (st' := [.int (Int32.ofInt (0)), .ref a]) (h' := h3) rfl ?_
    refine zh zJ_222 (i := (0, 0, 0, 999)) rfl rfl (k' := 10) (lo' := [(0, .ref a)]) (st' := [.int (Int32.ofInt (999)), .int (Int32.ofInt (0)), .ref a]) (h' := h3) rfl ?_
    refine zcl (xs := [.int (Int32.ofInt (999)), .int (Int32.ofInt (0))]) (rest := []) H1 zJ_222 rfl (k' := 11) rfl (by omega) rfl rfl (Nat.le_of_ble_eq_true rfl) (M' := z_m207) rfl (Nat.le_of_ble_eq_true rfl) (zS_207 (by omega) _ _ H1) (fun v h7 q => ?_)
    obtain ⟨c, P2, Q2, rfl, H2, h3, h4⟩ := q
    show z_ok sx d 222 11 [(0, .ref a)] [.int c] h7 _
    have b2 := H2.bd
    refine zh zJ_222 (i := (4, 1, 0, 0)) rfl rfl (k' := 12) (lo' := [(1, .int c), (0, .ref a)]) (st' := []) (h' := h7) rfl ?_
    refine zh zJ_222 (i := (2, 0, 0, 0)) rfl rfl (k' := 13) (lo' := [(1, .int c), (0, .ref a)]) (st' := [.ref a]) (h' := h7) rfl ?_
    refine zh zJ_222 (i := (0, 0, 0, 8)) rfl rfl (k' := 14) (lo' := [(1, .int c), (0, .ref a)]) (st' := [.int (Int32.ofInt (8)), .ref a]) (h' := h7) rfl ?_
    refine zh zJ_222 (i := (1, 1, 0, 0)) rfl rfl (k' := 15) (lo' := [(1, .int c), (0, .ref a)]) (st' := [.int c, .int (Int32.ofInt (8)), .ref a]) (h' := h7) rfl ?_
    refine zcl (xs := [.int c, .int (Int32.ofInt (8))]) (rest := []) H2 zJ_222 rfl (k' := 16) rfl (by omega) rfl rfl (Nat.le_of_ble_eq_true rfl) (M' := z_m221) rfl (Nat.le_of_ble_eq_true rfl) (zS_221 _ _ (by omega) H2) (fun v h8 q => ?_)
    obtain ⟨rfl, H3⟩ := q
    show z_ok sx d 222 16 [(1, .int c), (0, .ref a)] [] h8 _
    refine zh zJ_222 (i := (30, 59, 0, 0)) rfl rfl (k' := 59) (lo' := [(1, .int c), (0, .ref a)]) (st' := []) (h' := h8) rfl ?_
    exact zTl_222 H3 (fun h9 => ⟨by omega, zCd.push (by omega) (by decide)⟩)
theorem zJ_223 : zJ3 223 z_m223 z_c223 z_h223 := ⟨rfl, rfl, rfl⟩
set_option maxRecDepth 100000 in
theorem zLp_223 {sx : zX} {ty : List Nat} {h0 : zH} {a w b E : Nat} {P D S d : Nat} {g : Nat → Int32} (hd : 11 ≤ d) (hS : S + 1 ≤ P) : ∀ (n P1 Q1 S1 : Nat) (g1 : Nat → Int32) (h : zH), 400 - P1 < n → zPS ty h0 a w b E P1 Q1 D S1 g1 h → S1 + P ≤ P1 + S → zCd S g S1 g1 1 → z_ok sx d 223 5 [(0, .ref a)] [] h (zRq (zGs ty h0 a w b E P D S g))
  | 0, _, _, _, _, _, hn, _, _, _ => absurd hn (Nat.not_lt_zero _)
  | n + 1, P1, Q1, S1, g1, h, hn, H, hP1, hcd => by
    obtain ⟨bE, bP, bQ, bD, bS⟩ := H.bd
    refine zh zJ_223 (i := (2, 0, 0, 0)) rfl rfl (k' := 6) (lo' := [(0, .ref a)]) (st' := [.ref a]) (h' := h) rfl ?_
    refine zh zJ_223 (i := (0, 0, 0, 43)) rfl rfl (k' := 7) (lo' := [(0, .ref a)]) (st' := [.int (Int32.ofInt (43)), .ref a]) (h' := h) rfl ?_
    refine zcl (xs := [.int (Int32.ofInt (43))]) (rest := []) H zJ_223 rfl (k' := 8) rfl (by omega) rfl rfl (Nat.le_of_ble_eq_true rfl) (M' := z_m206) rfl (Nat.le_of_ble_eq_true rfl) (zS_206 (by omega) _ H) (fun v h21 q => ?_)
    obtain ⟨c, P2, Q2, rfl, H2, l1, l2⟩ := q
    show z_ok sx d 223 8 [(0, .ref a)] [.int c] h21 _
    have b2 := H2.bd
    refine zh_if zJ_223 (a := 19) (b := 0) (z := 0) rfl (fun hc22 => ?_) (fun hc22 => ?_)
    · refine zh zJ_223 (i := (0, 0, 0, 1)) rfl rfl (k' := 20) (lo' := [(0, .ref a)]) (st' := [.int (Int32.ofInt (1))]) (h' := h21) rfl ?_
      refine zh_iret zJ_223 (a := 0) (b := 0) (z := 0) rfl (Or.inr ⟨rfl, Or.inr rfl⟩) ?_
      exact ⟨_, rfl, rfl, rfl, _, P2, Q2, D, S1, g1, rfl, H2, Or.inr ⟨rfl, rfl, by omega, hcd⟩⟩
    · have l3 := (l2.resolve_left (fun e => hc22 (by rw [e]; rfl))).2
      refine zh zJ_223 (i := (2, 0, 0, 0)) rfl rfl (k' := 10) (lo' := [(0, .ref a)]) (st' := [.ref a]) (h' := h21) rfl ?_
      refine zcl (xs := []) (rest := []) H2 zJ_223 rfl (k' := 11) rfl (by omega) rfl rfl (Nat.le_of_ble_eq_true rfl) (M' := z_m222) rfl (Nat.le_of_ble_eq_true rfl) (zS_222 (by omega) (by omega) H2) (fun v h23 q => ?_)
      obtain ⟨c3, P3, Q3, D3, S3, g3, rfl, H3, h3⟩ := q
      show z_ok sx d 223 11 [(0, .ref a)] [.int c3] h23 _
      refine zh_if zJ_223 (a := 14) (b := 1) (z := 0) rfl (fun hc24 => ?_) (fun hc24 => ?_)
      · obtain ⟨-, rfl, h5, h6⟩ := (h3.resolve_left (fun e => zcmp_ne.mp hc24 (by rw [e])))
        have h7 := h6.1
        have b3 := H3.bd
        refine zh zJ_223 (i := (2, 0, 0, 0)) rfl rfl (k' := 15) (lo' := [(0, .ref a)]) (st' := [.ref a]) (h' := h23) rfl ?_
        refine zh zJ_223 (i := (0, 0, 0, 9)) rfl rfl (k' := 16) (lo' := [(0, .ref a)]) (st' := [.int (Int32.ofInt (9)), .ref a]) (h' := h23) rfl ?_
        refine zh zJ_223 (i := (0, 0, 0, 0)) rfl rfl (k' := 17) (lo' := [(0, .ref a)]) (st' := [.int (Int32.ofInt (0)), .int (Int32.ofInt (9)), .ref a]) (h' := h23) rfl ?_
        refine zcl (xs := [.int (Int32.ofInt (0)), .int (Int32.ofInt (9))]) (rest := []) H3 zJ_223 rfl (k' := 18) rfl (by omega) rfl rfl (Nat.le_of_ble_eq_true rfl) (M' := z_m221) rfl (Nat.le_of_ble_eq_true rfl) (zS_221 _ _ (by omega) H3) (fun v h25 q => ?_)
        obtain ⟨rfl, H4⟩ := q
        show z_ok sx d 223 18 [(0, .ref a)] [] h25 _
        refine zh zJ_223 (i := (30, 5, 0, 0)) rfl rfl (k' := 5) (lo' := [(0, .ref a)]) (st' := []) (h' := h25) rfl ?_
        exact zLp_223 hd hS n P3 Q3 (S3 + 1) _ _ (by omega) H4 (by omega) ((hcd.two h6).bin (by omega) (by decide) (by decide))
      · refine zh zJ_223 (i := (0, 0, 0, 0)) rfl rfl (k' := 13) (lo' := [(0, .ref a)]) (st' := [.int (Int32.ofInt (0))]) (h' := h23) rfl ?_
        refine zh_iret zJ_223 (a := 0) (b := 0) (z := 0) rfl (Or.inr ⟨rfl, Or.inl rfl⟩) ?_
        exact ⟨_, rfl, rfl, rfl, _, P3, Q3, D3, S3, g3, rfl, H3, Or.inl rfl⟩
set_option maxRecDepth 100000 in
theorem zS_223 {sx : zX} {ty : List Nat} {h0 : zH} {a w b E : Nat} {P Q D S d : Nat} {g : Nat → Int32} {h : zH} (hd : 11 ≤ d) (hS : S + 1 ≤ P) (H : zPS ty h0 a w b E P Q D S g h) : z_ok sx d 223 0 (lv_args 0 [.ref a]) [] h (zRq (zGs ty h0 a w b E P D S g)) := by
  show z_ok sx d 223 0 [(0, .ref a)] [] h _
  refine zh zJ_223 (i := (2, 0, 0, 0)) rfl rfl (k' := 1) (lo' := [(0, .ref a)]) (st' := [.ref a]) (h' := h) rfl ?_
  refine zcl (xs := []) (rest := []) H zJ_223 rfl (k' := 2) rfl (by omega) rfl rfl (Nat.le_of_ble_eq_true rfl) (M' := z_m222) rfl (Nat.le_of_ble_eq_true rfl) (zS_222 (by omega) (by omega) H) (fun v h26 q => ?_)
  obtain ⟨c3, P3, Q3, D3, S3, g3, rfl, H3, h3⟩ := q
  show z_ok sx d 223 2 [(0, .ref a)] [.int c3] h26 _
  refine zh_if zJ_223 (a := 5) (b := 1) (z := 0) rfl (fun hc27 => ?_) (fun hc27 => ?_)
  · obtain ⟨-, rfl, h5, h6⟩ := (h3.resolve_left (fun e => zcmp_ne.mp hc27 (by rw [e])))
    exact zLp_223 hd hS 401 P3 Q3 S3 _ _ (by omega) H3 h5 h6
  · refine zh zJ_223 (i := (0, 0, 0, 0)) rfl rfl (k' := 4) (lo' := [(0, .ref a)]) (st' := [.int (Int32.ofInt (0))]) (h' := h26) rfl ?_
    refine zh_iret zJ_223 (a := 0) (b := 0) (z := 0) rfl (Or.inr ⟨rfl, Or.inl rfl⟩) ?_
    exact ⟨_, rfl, rfl, rfl, _, P3, Q3, D3, S3, g3, rfl, H3, Or.inl rfl⟩
theorem zJ_224 : zJ3 224 z_m224 z_c224 z_h224 := ⟨rfl, rfl, rfl⟩
set_option maxRecDepth 100000 in
theorem zTl_224 {sx : zX} {ty : List Nat} {h0 : zH} {a w b E : Nat} {P D S d : Nat} {g : Nat → Int32} {h : zH} {P1 Q1 : Nat} {v : Int32} (hd : 9 ≤ d) (hS : S + 1 ≤ P) (hPQ : P ≤ Q1) (H : zPS ty h0 a w b E P1 Q1 D S g h) (hv : v.toInt < 0 ∨ (Q1 + 1 ≤ P1 ∧ v.toInt ≤ 8)) : z_ok sx d 224 15 [(0, .ref a)] [.int v] h (zRq (fun r h' => ∃ (c : Int32) (P' Q' S' : Nat) (g' : Nat → Int32), r = some (.int c) ∧ zPS ty h0 a w b E P' Q' D S' g' h' ∧ ((c = 0 ∧ P ≤ P' ∧ S' = S ∧ g' = g) ∨ (c = 1 ∧ S' + P ≤ P' + S ∧ zCd S g S' g' 1)))) := by
  obtain ⟨bE, bP, bQ, bD, bS⟩ := H.bd
  refine zh zJ_224 (i := (4, 1, 0, 0)) rfl rfl (k' := 16) (lo' := [(1, .int v), (0, .ref a)]) (st' := []) (h' := h) rfl ?_
  refine zh zJ_224 (i := (1, 1, 0, 0)) rfl rfl (k' := 17) (lo' := [(1, .int v), (0, .ref a)]) (st' := [.int v]) (h' := h) rfl ?_
  refine zh_if zJ_224 (a := 23) (b := 2) (z := 0) rfl (fun hc28 => ?_) (fun hc28 => ?_)
  · refine zh zJ_224 (i := (2, 0, 0, 0)) rfl rfl (k' := 24) (lo' := [(1, .int v), (0, .ref a)]) (st' := [.ref a]) (h' := h) rfl ?_
    refine zh zJ_224 (i := (2, 0, 0, 0)) rfl rfl (k' := 25) (lo' := [(1, .int v), (0, .ref a)]) (st' := [.ref a, .ref a]) (h' := h) rfl ?_
    refine zg12 H zJ_224 rfl (k' := 26) rfl (fun x29 ex29 => ?_)
    refine zp10 H zJ_224 rfl (k' := 27) rfl (Q1) ex29 bQ (fun h30 Hh30 => ?_)
    refine zh zJ_224 (i := (1, 1, 0, 0)) rfl rfl (k' := 28) (lo' := [(1, .int v), (0, .ref a)]) (st' := [.int v]) (h' := h30) rfl ?_
    refine zh_if zJ_224 (a := 31) (b := 2) (z := 0) rfl (fun hc31 => ?_) (fun hc31 => ?_)
    · refine zh zJ_224 (i := (0, 0, 0, 0)) rfl rfl (k' := 32) (lo' := [(1, .int v), (0, .ref a)]) (st' := [.int (Int32.ofInt (0))]) (h' := h30) rfl ?_
      refine zh_iret zJ_224 (a := 0) (b := 0) (z := 0) rfl (Or.inr ⟨rfl, Or.inl rfl⟩) ?_
      exact ⟨_, rfl, rfl, rfl, _, Q1, Q1, S, g, rfl, Hh30, Or.inl ⟨rfl, hPQ, rfl, rfl⟩⟩
    · exact absurd hc28 hc31
  · have h0v : 0 ≤ v.toInt := (by have := mt zcmp_lt.mpr hc28; rw [show (0 : Int32).toInt = 0 from rfl] at this; omega)
    have hlt : Q1 + 1 ≤ P1 := (hv.resolve_left (by omega)).1
    have hv8 : v.toInt ≤ 8 := (hv.resolve_left (by omega)).2
    refine zh zJ_224 (i := (2, 0, 0, 0)) rfl rfl (k' := 19) (lo' := [(1, .int v), (0, .ref a)]) (st' := [.ref a]) (h' := h) rfl ?_
    refine zh zJ_224 (i := (1, 1, 0, 0)) rfl rfl (k' := 20) (lo' := [(1, .int v), (0, .ref a)]) (st' := [.int v, .ref a]) (h' := h) rfl ?_
    refine zh zJ_224 (i := (0, 0, 0, 0)) rfl rfl (k' := 21) (lo' := [(1, .int v), (0, .ref a)]) (st' := [.int (Int32.ofInt (0)), .int v, .ref a]) (h' := h) rfl ?_
    refine zcl (xs := [.int (Int32.ofInt (0)), .int v]) (rest := []) H zJ_224 rfl (k' := 22) rfl (by omega) rfl rfl (Nat.le_of_ble_eq_true rfl) (M' := z_m221) rfl (Nat.le_of_ble_eq_true rfl) (zS_221 _ _ (by omega) H) (fun v h32 q => ?_)
    obtain ⟨rfl, H2⟩ := q
    show z_ok sx d 224 22 [(1, .int v), (0, .ref a)] [] h32 _
    refine zh zJ_224 (i := (30, 27, 0, 0)) rfl rfl (k' := 27) (lo' := [(1, .int v), (0, .ref a)]) (st' := []) (h' := h32) rfl ?_
    refine zh zJ_224 (i := (1, 1, 0, 0)) rfl rfl (k' := 28) (lo' := [(1, .int v), (0, .ref a)]) (st' := [.int v]) (h' := h32) rfl ?_
    refine zh_if zJ_224 (a := 31) (b := 2) (z := 0) rfl (fun hc33 => ?_) (fun hc33 => ?_)
    · exact absurd hc33 hc28
    · refine zh zJ_224 (i := (0, 0, 0, 1)) rfl rfl (k' := 30) (lo' := [(1, .int v), (0, .ref a)]) (st' := [.int (Int32.ofInt (1))]) (h' := h32) rfl ?_
      refine zh zJ_224 (i := (30, 32, 0, 0)) rfl rfl (k' := 32) (lo' := [(1, .int v), (0, .ref a)]) (st' := [.int (Int32.ofInt (1))]) (h' := h32) rfl ?_
      refine zh_iret zJ_224 (a := 0) (b := 0) (z := 0) rfl (Or.inr ⟨rfl, Or.inr rfl⟩) ?_
      exact ⟨_, rfl, rfl, rfl, _, P1, Q1, S + 1, _, rfl, H2, Or.inr ⟨rfl, by omega, zCd.push (by omega) hv8⟩⟩
set_option maxRecDepth 100000 in
theorem zS_224 {sx : zX} {ty : List Nat} {h0 : zH} {a w b E : Nat} {P Q D S d : Nat} {g : Nat → Int32} {h : zH} (hd : 10 ≤ d) (hS : S + 1 ≤ P) (H : zPS ty h0 a w b E P Q D S g h) : z_ok sx d 224 0 (lv_args 0 [.ref a]) [] h (zRq (fun r h' => ∃ (c : Int32) (P' Q' S' : Nat) (g' : Nat → Int32), r = some (.int c) ∧ zPS ty h0 a w b E P' Q' D S' g' h' ∧ ((c = 0 ∧ P ≤ P' ∧ S' = S ∧ g' = g) ∨ (c = 1 ∧ S' + P ≤ P' + S ∧ zCd S g S' g' 1)))) := by
  show z_ok sx d 224 0 [(0, .ref a)] [] h _
  refine zh zJ_224 (i := (2, 0, 0, 0)) rfl rfl (k' := 1) (lo' := [(0, .ref a)]) (st' := [.ref a]) (h' := h) rfl ?_
  refine zcl (xs := []) (rest := []) H zJ_224 rfl (k' := 2) rfl (by omega) rfl rfl (Nat.le_of_ble_eq_true rfl) (M' := z_m203) rfl (Nat.le_of_ble_eq_true rfl) (zS_203 (by omega) H) (fun v h34 q => ?_)
  obtain ⟨rfl, P1, Q1, h1, h2, H1⟩ := q
  show z_ok sx d 224 2 [(0, .ref a)] [] h34 _
  refine zh zJ_224 (i := (2, 0, 0, 0)) rfl rfl (k' := 3) (lo' := [(0, .ref a)]) (st' := [.ref a]) (h' := h34) rfl ?_
  refine zldc zJ_224 rfl (k' := 4) rfl (by decide +kernel) ?_
  refine zcl (xs := [.ref (zB + 61)]) (rest := []) H1 zJ_224 rfl (k' := 5) rfl (by omega) rfl rfl (Nat.le_of_ble_eq_true rfl) (M' := z_m204) rfl (Nat.le_of_ble_eq_true rfl) (zS_204 (t := 61) (by omega) rfl (by decide) (by decide) H1) (fun v h35 q => ?_)
  obtain ⟨rfl, c, rfl, hc⟩ := q
  show z_ok sx d 224 5 [(0, .ref a)] [.int c] h35 _
  refine zh_if zJ_224 (a := 8) (b := 0) (z := 0) rfl (fun hc36 => ?_) (fun hc36 => ?_)
  · refine zh zJ_224 (i := (2, 0, 0, 0)) rfl rfl (k' := 9) (lo' := [(0, .ref a)]) (st' := [.ref a]) (h' := h35) rfl ?_
    refine zldc zJ_224 rfl (k' := 10) rfl (by decide +kernel) ?_
    refine zcl (xs := [.ref (zB + 62)]) (rest := []) H1 zJ_224 rfl (k' := 11) rfl (by omega) rfl rfl (Nat.le_of_ble_eq_true rfl) (M' := z_m204) rfl (Nat.le_of_ble_eq_true rfl) (zS_204 (t := 62) (by omega) rfl (by decide) (by decide) H1) (fun v h37 q => ?_)
    obtain ⟨rfl, c, rfl, hc⟩ := q
    show z_ok sx d 224 11 [(0, .ref a)] [.int c] h37 _
    refine zh_if zJ_224 (a := 14) (b := 0) (z := 0) rfl (fun hc38 => ?_) (fun hc38 => ?_)
    · refine zh zJ_224 (i := (0, 0, 0, -1)) rfl rfl (k' := 15) (lo' := [(0, .ref a)]) (st' := [.int (Int32.ofInt (-1))]) (h' := h37) rfl ?_
      exact zTl_224 (by omega) hS h1 H1 (Or.inl (by decide))
    · have hlt := (hc.resolve_left (fun e => hc38 (by rw [e]; rfl))).2
      refine zh zJ_224 (i := (0, 0, 0, 7)) rfl rfl (k' := 13) (lo' := [(0, .ref a)]) (st' := [.int (Int32.ofInt (7))]) (h' := h37) rfl ?_
      refine zh zJ_224 (i := (30, 15, 0, 0)) rfl rfl (k' := 15) (lo' := [(0, .ref a)]) (st' := [.int (Int32.ofInt (7))]) (h' := h37) rfl ?_
      exact zTl_224 (by omega) hS h1 H1 (Or.inr ⟨hlt, by decide⟩)
  · have hlt := (hc.resolve_left (fun e => hc36 (by rw [e]; rfl))).2
    refine zh zJ_224 (i := (0, 0, 0, 6)) rfl rfl (k' := 7) (lo' := [(0, .ref a)]) (st' := [.int (Int32.ofInt (6))]) (h' := h35) rfl ?_
    refine zh zJ_224 (i := (30, 15, 0, 0)) rfl rfl (k' := 15) (lo' := [(0, .ref a)]) (st' := [.int (Int32.ofInt (6))]) (h' := h35) rfl ?_
    exact zTl_224 (by omega) hS h1 H1 (Or.inr ⟨hlt, by decide⟩)
theorem zJ_225 : zJ3 225 z_m225 z_c225 z_h225 := ⟨rfl, rfl, rfl⟩
set_option maxRecDepth 100000 in
theorem zTl_225 {sx : zX} {ty : List Nat} {h0 : zH} {a w b E : Nat} {P D S d : Nat} {g : Nat → Int32} {h : zH} {P1 Q1 S1 : Nat} {g1 : Nat → Int32} {c : Int32} (hd : 12 ≤ d) (hS : S + 1 ≤ P) (H : zPS ty h0 a w b E P1 Q1 D S1 g1 h) (hP : S1 + P + 1 ≤ P1 + S) (hcd : zCd S g S1 g1 1) : z_ok sx d 225 84 [(1, .int c), (0, .ref a)] [] h (zRq (zGs ty h0 a w b E P D S g)) := by
  obtain ⟨bE, bP, bQ, bD, bS⟩ := H.bd
  have hS1 := hcd.1
  refine zh zJ_225 (i := (2, 0, 0, 0)) rfl rfl (k' := 85) (lo' := [(1, .int c), (0, .ref a)]) (st' := [.ref a]) (h' := h) rfl ?_
  refine zcl (xs := []) (rest := []) H zJ_225 rfl (k' := 86) rfl (by omega) rfl rfl (Nat.le_of_ble_eq_true rfl) (M' := z_m223) rfl (Nat.le_of_ble_eq_true rfl) (zS_223 (by omega) (by omega) H) (fun v h39 q => ?_)
  obtain ⟨c3, P3, Q3, D3, S3, g3, rfl, H3, h3⟩ := q
  show z_ok sx d 225 86 [(1, .int c), (0, .ref a)] [.int c3] h39 _
  refine zh_if zJ_225 (a := 89) (b := 1) (z := 0) rfl (fun hc40 => ?_) (fun hc40 => ?_)
  · obtain ⟨-, rfl, h5, h6⟩ := (h3.resolve_left (fun e => zcmp_ne.mp hc40 (by rw [e])))
    have h7 := h6.1
    have b3 := H3.bd
    refine zh zJ_225 (i := (2, 0, 0, 0)) rfl rfl (k' := 90) (lo' := [(1, .int c), (0, .ref a)]) (st' := [.ref a]) (h' := h39) rfl ?_
    refine zh zJ_225 (i := (1, 1, 0, 0)) rfl rfl (k' := 91) (lo' := [(1, .int c), (0, .ref a)]) (st' := [.int c, .ref a]) (h' := h39) rfl ?_
    refine zh_if zJ_225 (a := 94) (b := 0) (z := 0) rfl (fun hc41 => ?_) (fun hc41 => ?_)
    · refine zh zJ_225 (i := (0, 0, 0, 11)) rfl rfl (k' := 95) (lo' := [(1, .int c), (0, .ref a)]) (st' := [.int (Int32.ofInt (11)), .ref a]) (h' := h39) rfl ?_
      refine zh zJ_225 (i := (0, 0, 0, 0)) rfl rfl (k' := 96) (lo' := [(1, .int c), (0, .ref a)]) (st' := [.int (Int32.ofInt (0)), .int (Int32.ofInt (11)), .ref a]) (h' := h39) rfl ?_
      refine zcl (xs := [.int (Int32.ofInt (0)), .int (Int32.ofInt (11))]) (rest := []) H3 zJ_225 rfl (k' := 97) rfl (by omega) rfl rfl (Nat.le_of_ble_eq_true rfl) (M' := z_m221) rfl (Nat.le_of_ble_eq_true rfl) (zS_221 _ _ (by omega) H3) (fun v h42 q => ?_)
      obtain ⟨rfl, H4⟩ := q
      show z_ok sx d 225 97 [(1, .int c), (0, .ref a)] [] h42 _
      refine zh zJ_225 (i := (0, 0, 0, 1)) rfl rfl (k' := 98) (lo' := [(1, .int c), (0, .ref a)]) (st' := [.int (Int32.ofInt (1))]) (h' := h42) rfl ?_
      refine zh_iret zJ_225 (a := 0) (b := 0) (z := 0) rfl (Or.inr ⟨rfl, Or.inr rfl⟩) ?_
      exact ⟨_, rfl, rfl, rfl, _, P3, Q3, D3, S3 + 1, _, rfl, H4, Or.inr ⟨rfl, rfl, by omega, (hcd.two h6).bin (by omega) (by decide) (by decide)⟩⟩
    · refine zh zJ_225 (i := (0, 0, 0, 10)) rfl rfl (k' := 93) (lo' := [(1, .int c), (0, .ref a)]) (st' := [.int (Int32.ofInt (10)), .ref a]) (h' := h39) rfl ?_
      refine zh zJ_225 (i := (30, 95, 0, 0)) rfl rfl (k' := 95) (lo' := [(1, .int c), (0, .ref a)]) (st' := [.int (Int32.ofInt (10)), .ref a]) (h' := h39) rfl ?_
      refine zh zJ_225 (i := (0, 0, 0, 0)) rfl rfl (k' := 96) (lo' := [(1, .int c), (0, .ref a)]) (st' := [.int (Int32.ofInt (0)), .int (Int32.ofInt (10)), .ref a]) (h' := h39) rfl ?_
      refine zcl (xs := [.int (Int32.ofInt (0)), .int (Int32.ofInt (10))]) (rest := []) H3 zJ_225 rfl (k' := 97) rfl (by omega) rfl rfl (Nat.le_of_ble_eq_true rfl) (M' := z_m221) rfl (Nat.le_of_ble_eq_true rfl) (zS_221 _ _ (by omega) H3) (fun v h43 q => ?_)
      obtain ⟨rfl, H4⟩ := q
      show z_ok sx d 225 97 [(1, .int c), (0, .ref a)] [] h43 _
      refine zh zJ_225 (i := (0, 0, 0, 1)) rfl rfl (k' := 98) (lo' := [(1, .int c), (0, .ref a)]) (st' := [.int (Int32.ofInt (1))]) (h' := h43) rfl ?_
      refine zh_iret zJ_225 (a := 0) (b := 0) (z := 0) rfl (Or.inr ⟨rfl, Or.inr rfl⟩) ?_
      exact ⟨_, rfl, rfl, rfl, _, P3, Q3, D3, S3 + 1, _, rfl, H4, Or.inr ⟨rfl, rfl, by omega, (hcd.two h6).bin (by omega) (by decide) (by decide)⟩⟩
  · refine zh zJ_225 (i := (0, 0, 0, 0)) rfl rfl (k' := 88) (lo' := [(1, .int c), (0, .ref a)]) (st' := [.int (Int32.ofInt (0))]) (h' := h39) rfl ?_
    refine zh_iret zJ_225 (a := 0) (b := 0) (z := 0) rfl (Or.inr ⟨rfl, Or.inl rfl⟩) ?_
    exact ⟨_, rfl, rfl, rfl, _, P3, Q3, D3, S3, g3, rfl, H3, Or.inl rfl⟩
noncomputable def zGA (n : Nat) : Prop := ∀ {sx : zX} {ty : List Nat} {h0 : zH} {a w b E : Nat} {P Q D S d : Nat} {g : Nat → Int32} {h : zH}, D + n = 6 → 12 + 3 * n ≤ d → S + 1 ≤ P → zPS ty h0 a w b E P Q D S g h → z_ok sx d 225 0 (lv_args 0 [.ref a]) [] h (zRq (zGs ty h0 a w b E P D S g))
noncomputable def zGL (n : Nat) : Prop := ∀ {sx : zX} {ty : List Nat} {h0 : zH} {a w b E : Nat} {P Q D S d : Nat} {g : Nat → Int32} {h : zH}, D + n = 6 → 13 + 3 * n ≤ d → S + 1 ≤ P → zPS ty h0 a w b E P Q D S g h → z_ok sx d 226 0 (lv_args 0 [.ref a]) [] h (zRq (zGs ty h0 a w b E P D S g))
noncomputable def zGC (n : Nat) : Prop := ∀ {sx : zX} {ty : List Nat} {h0 : zH} {a w b E : Nat} {P Q D S d : Nat} {g : Nat → Int32} {h : zH}, D + n = 6 → 14 + 3 * n ≤ d → S + 1 ≤ P → zPS ty h0 a w b E P Q D S g h → z_ok sx d 227 0 (lv_args 0 [.ref a]) [] h (zRq (zGs ty h0 a w b E P D S g))
theorem zcmp0 {x : Int32} (h : z_cmp 0 x 0 = true) : x = 0 := Int32.toInt_inj.mp (zcmp_eq.mp h)
set_option maxRecDepth 100000 in
theorem zS_225 (n : Nat) (ih : ∀ m, n = m + 1 → zGA m ∧ zGC m) : zGA n := by
  intro sx ty h0 a w b E P Q D S d g h hn hd hS H
  obtain ⟨bE, bP, bQ, bD, bS⟩ := H.bd
  show z_ok sx d 225 0 [(0, .ref a)] [] h _
  refine zh zJ_225 (i := (2, 0, 0, 0)) rfl rfl (k' := 1) (lo' := [(0, .ref a)]) (st' := [.ref a]) (h' := h) rfl ?_
  refine zh zJ_225 (i := (0, 0, 0, 40)) rfl rfl (k' := 2) (lo' := [(0, .ref a)]) (st' := [.int (Int32.ofInt (40)), .ref a]) (h' := h) rfl ?_
  refine zcl (xs := [.int (Int32.ofInt (40))]) (rest := []) H zJ_225 rfl (k' := 3) rfl (by omega) rfl rfl (Nat.le_of_ble_eq_true rfl) (M' := z_m206) rfl (Nat.le_of_ble_eq_true rfl) (zS_206 (by omega) _ H) (fun v h44 q => ?_)
  obtain ⟨c, P1, Q1, rfl, H1, l1, l2⟩ := q
  show z_ok sx d 225 3 [(0, .ref a)] [.int c] h44 _
  have b1 := H1.bd
  refine zh_if zJ_225 (a := 31) (b := 0) (z := 0) rfl (fun hc45 => ?_) (fun hc45 => ?_)
  · refine zh zJ_225 (i := (2, 0, 0, 0)) rfl rfl (k' := 32) (lo' := [(0, .ref a)]) (st' := [.ref a]) (h' := h44) rfl ?_
    refine zldc zJ_225 rfl (k' := 33) rfl (by decide +kernel) ?_
    refine zcl (xs := [.ref (zB + 63)]) (rest := []) H1 zJ_225 rfl (k' := 34) rfl (by omega) rfl rfl (Nat.le_of_ble_eq_true rfl) (M' := z_m205) rfl (Nat.le_of_ble_eq_true rfl) (zS_205 (t := 63) (by omega) rfl (by decide) (by decide) H1) (fun v h55 q => ?_)
    obtain ⟨c2, P2, Q2, rfl, H2, k1, k2⟩ := q
    show z_ok sx d 225 34 [(0, .ref a)] [.int c2] h55 _
    have b2 := H2.bd
    refine zh_if zJ_225 (a := 64) (b := 0) (z := 0) rfl (fun hc56 => ?_) (fun hc56 => ?_)
    · refine zh zJ_225 (i := (2, 0, 0, 0)) rfl rfl (k' := 65) (lo' := [(0, .ref a)]) (st' := [.ref a]) (h' := h55) rfl ?_
      refine zcl (xs := []) (rest := []) H2 zJ_225 rfl (k' := 66) rfl (by omega) rfl rfl (Nat.le_of_ble_eq_true rfl) (M' := z_m224) rfl (Nat.le_of_ble_eq_true rfl) (zS_224 (by omega) (by omega) H2) (fun v h66 q => ?_)
      obtain ⟨c3, P3, Q3, S3, g3, rfl, H3, h3⟩ := q
      show z_ok sx d 225 66 [(0, .ref a)] [.int c3] h66 _
      refine zh_if zJ_225 (a := 69) (b := 0) (z := 0) rfl (fun hc67 => ?_) (fun hc67 => ?_)
      · have e3 : c3 = 0 := zcmp0 hc67
        obtain ⟨-, h5, rfl, rfl⟩ := h3.resolve_right (fun e => by rw [e3] at e; exact absurd e.1 (by decide))
        refine zh zJ_225 (i := (2, 0, 0, 0)) rfl rfl (k' := 70) (lo' := [(0, .ref a)]) (st' := [.ref a]) (h' := h66) rfl ?_
        refine zcl (xs := []) (rest := []) H3 zJ_225 rfl (k' := 71) rfl (by omega) rfl rfl (Nat.le_of_ble_eq_true rfl) (M' := z_m223) rfl (Nat.le_of_ble_eq_true rfl) (zS_223 (by omega) (by omega) H3) (fun v h68 q => ?_)
        obtain ⟨c4, P4, Q4, D4, S4, g4, rfl, H4, h4⟩ := q
        show z_ok sx d 225 71 [(0, .ref a)] [.int c4] h68 _
        refine zh_if zJ_225 (a := 74) (b := 1) (z := 0) rfl (fun hc69 => ?_) (fun hc69 => ?_)
        · obtain ⟨-, rfl, h6, h7⟩ := (h4.resolve_left (fun e => zcmp_ne.mp hc69 (by rw [e])))
          refine zh zJ_225 (i := (2, 0, 0, 0)) rfl rfl (k' := 75) (lo' := [(0, .ref a)]) (st' := [.ref a]) (h' := h68) rfl ?_
          refine zh zJ_225 (i := (0, 0, 0, 60)) rfl rfl (k' := 76) (lo' := [(0, .ref a)]) (st' := [.int (Int32.ofInt (60)), .ref a]) (h' := h68) rfl ?_
          refine zcl (xs := [.int (Int32.ofInt (60))]) (rest := []) H4 zJ_225 rfl (k' := 77) rfl (by omega) rfl rfl (Nat.le_of_ble_eq_true rfl) (M' := z_m206) rfl (Nat.le_of_ble_eq_true rfl) (zS_206 (by omega) _ H4) (fun v h70 q => ?_)
          obtain ⟨c5, P5, Q5, rfl, H5, m1, m2⟩ := q
          show z_ok sx d 225 77 [(0, .ref a)] [.int c5] h70 _
          refine zh zJ_225 (i := (4, 1, 0, 0)) rfl rfl (k' := 78) (lo' := [(1, .int c5), (0, .ref a)]) (st' := []) (h' := h70) rfl ?_
          refine zh zJ_225 (i := (1, 1, 0, 0)) rfl rfl (k' := 79) (lo' := [(1, .int c5), (0, .ref a)]) (st' := [.int c5]) (h' := h70) rfl ?_
          refine zh_if zJ_225 (a := 84) (b := 1) (z := 0) rfl (fun hc71 => ?_) (fun hc71 => ?_)
          · have m3 := (m2.resolve_left (fun e => zcmp_ne.mp hc71 (by rw [e]))).2
            exact zTl_225 (by omega) hS H5 (by omega) h7
          · refine zh zJ_225 (i := (2, 0, 0, 0)) rfl rfl (k' := 81) (lo' := [(1, .int c5), (0, .ref a)]) (st' := [.ref a]) (h' := h70) rfl ?_
            refine zh zJ_225 (i := (0, 0, 0, 62)) rfl rfl (k' := 82) (lo' := [(1, .int c5), (0, .ref a)]) (st' := [.int (Int32.ofInt (62)), .ref a]) (h' := h70) rfl ?_
            refine zcl (xs := [.int (Int32.ofInt (62))]) (rest := []) H5 zJ_225 rfl (k' := 83) rfl (by omega) rfl rfl (Nat.le_of_ble_eq_true rfl) (M' := z_m206) rfl (Nat.le_of_ble_eq_true rfl) (zS_206 (by omega) _ H5) (fun v h72 q => ?_)
            obtain ⟨c6, P6, Q6, rfl, H6, n1, n2⟩ := q
            show z_ok sx d 225 83 [(1, .int c5), (0, .ref a)] [.int c6] h72 _
            refine zh_if zJ_225 (a := 87) (b := 0) (z := 0) rfl (fun hc73 => ?_) (fun hc73 => ?_)
            · refine zh zJ_225 (i := (0, 0, 0, 0)) rfl rfl (k' := 88) (lo' := [(1, .int c5), (0, .ref a)]) (st' := [.int (Int32.ofInt (0))]) (h' := h72) rfl ?_
              refine zh_iret zJ_225 (a := 0) (b := 0) (z := 0) rfl (Or.inr ⟨rfl, Or.inl rfl⟩) ?_
              exact ⟨_, rfl, rfl, rfl, _, P6, Q6, _, S4, g4, rfl, H6, Or.inl rfl⟩
            · have n3 := (n2.resolve_left (fun e => hc73 (by rw [e]; rfl))).2
              exact zTl_225 (by omega) hS H6 (by omega) h7
        · refine zh zJ_225 (i := (0, 0, 0, 0)) rfl rfl (k' := 73) (lo' := [(0, .ref a)]) (st' := [.int (Int32.ofInt (0))]) (h' := h68) rfl ?_
          refine zh_iret zJ_225 (a := 0) (b := 0) (z := 0) rfl (Or.inr ⟨rfl, Or.inl rfl⟩) ?_
          exact ⟨_, rfl, rfl, rfl, _, P4, Q4, D4, S4, g4, rfl, H4, Or.inl rfl⟩
      · obtain ⟨-, h5, h6⟩ := h3.resolve_left (fun e => hc67 (by rw [e.1]; rfl))
        refine zh zJ_225 (i := (0, 0, 0, 1)) rfl rfl (k' := 68) (lo' := [(0, .ref a)]) (st' := [.int (Int32.ofInt (1))]) (h' := h66) rfl ?_
        refine zh_iret zJ_225 (a := 0) (b := 0) (z := 0) rfl (Or.inr ⟨rfl, Or.inr rfl⟩) ?_
        exact ⟨_, rfl, rfl, rfl, _, P3, Q3, D, S3, g3, rfl, H3, Or.inr ⟨rfl, rfl, by omega, h6⟩⟩
    · have k3 := (k2.resolve_left (fun e => hc56 (by rw [e]; rfl))).2
      refine zh zJ_225 (i := (2, 0, 0, 0)) rfl rfl (k' := 36) (lo' := [(0, .ref a)]) (st' := [.ref a]) (h' := h55) rfl ?_
      refine zg13 H2 zJ_225 rfl (k' := 37) rfl (fun x57 ex57 => ?_)
      refine zh zJ_225 (i := (0, 0, 0, 6)) rfl rfl (k' := 38) (lo' := [(0, .ref a)]) (st' := [.int (Int32.ofInt (6)), .int x57]) (h' := h55) rfl ?_
      refine zh_icmp zJ_225 (a := 41) (b := 1) (z := 0) rfl (fun hc58 => ?_) (fun hc58 => ?_)
      · have hD : D < 6 := (by have := zcmp_ne.mp hc58; rw [zI_c (by decide) (by decide)] at this; omega)
        obtain ⟨m, rfl⟩ : ∃ m, n = m + 1 := ⟨n - 1, by omega⟩
        obtain ⟨gA, gC⟩ := ih m rfl
        refine zh zJ_225 (i := (2, 0, 0, 0)) rfl rfl (k' := 42) (lo' := [(0, .ref a)]) (st' := [.ref a]) (h' := h55) rfl ?_
        refine zh zJ_225 (i := (27, 0, 0, 0)) rfl rfl (k' := 43) (lo' := [(0, .ref a)]) (st' := [.ref a, .ref a]) (h' := h55) rfl ?_
        refine zg13 H2 zJ_225 rfl (k' := 44) rfl (fun x59 ex59 => ?_)
        refine zh zJ_225 (i := (0, 0, 0, 1)) rfl rfl (k' := 45) (lo' := [(0, .ref a)]) (st' := [.int (Int32.ofInt (1)), .int x59, .ref a]) (h' := h55) rfl ?_
        refine zh zJ_225 (i := (8, 0, 0, 0)) rfl rfl (k' := 46) (lo' := [(0, .ref a)]) (st' := [.int (x59 + (Int32.ofInt (1))), .ref a]) (h' := h55) rfl ?_
        refine zp13 H2 zJ_225 rfl (k' := 47) rfl (D + 1) (by rw [zI_add ex59 (zI_c (by decide) (by decide)) (by omega) (by omega)]; omega) (by omega) (fun h60 Hh60 => ?_)
        refine zh zJ_225 (i := (2, 0, 0, 0)) rfl rfl (k' := 48) (lo' := [(0, .ref a)]) (st' := [.ref a]) (h' := h60) rfl ?_
        refine zcl (xs := []) (rest := []) Hh60 zJ_225 rfl (k' := 49) rfl (by omega) rfl rfl (Nat.le_of_ble_eq_true rfl) (M' := z_m225) rfl (Nat.le_of_ble_eq_true rfl) (gA (by omega) (by omega) (by omega) Hh60) (fun v h61 q => ?_)
        obtain ⟨c3, P3, Q3, D3, S3, g3, rfl, H3, h3⟩ := q
        show z_ok sx d 225 49 [(0, .ref a)] [.int c3] h61 _
        refine zh_if zJ_225 (a := 52) (b := 1) (z := 0) rfl (fun hc62 => ?_) (fun hc62 => ?_)
        · obtain ⟨-, rfl, h5, h6⟩ := (h3.resolve_left (fun e => zcmp_ne.mp hc62 (by rw [e])))
          have h7 := h6.1
          have b3 := H3.bd
          refine zh zJ_225 (i := (2, 0, 0, 0)) rfl rfl (k' := 53) (lo' := [(0, .ref a)]) (st' := [.ref a]) (h' := h61) rfl ?_
          refine zh zJ_225 (i := (27, 0, 0, 0)) rfl rfl (k' := 54) (lo' := [(0, .ref a)]) (st' := [.ref a, .ref a]) (h' := h61) rfl ?_
          refine zg13 H3 zJ_225 rfl (k' := 55) rfl (fun x63 ex63 => ?_)
          refine zh zJ_225 (i := (0, 0, 0, 1)) rfl rfl (k' := 56) (lo' := [(0, .ref a)]) (st' := [.int (Int32.ofInt (1)), .int x63, .ref a]) (h' := h61) rfl ?_
          refine zh zJ_225 (i := (9, 0, 0, 0)) rfl rfl (k' := 57) (lo' := [(0, .ref a)]) (st' := [.int (x63 - (Int32.ofInt (1))), .ref a]) (h' := h61) rfl ?_
          refine zp13 H3 zJ_225 rfl (k' := 58) rfl (D) (by rw [zI_sub ex63 (zI_c (by decide) (by decide)) (by omega) (by omega)]; omega) (by omega) (fun h64 Hh64 => ?_)
          refine zh zJ_225 (i := (2, 0, 0, 0)) rfl rfl (k' := 59) (lo' := [(0, .ref a)]) (st' := [.ref a]) (h' := h64) rfl ?_
          refine zh zJ_225 (i := (0, 0, 0, 12)) rfl rfl (k' := 60) (lo' := [(0, .ref a)]) (st' := [.int (Int32.ofInt (12)), .ref a]) (h' := h64) rfl ?_
          refine zh zJ_225 (i := (0, 0, 0, 0)) rfl rfl (k' := 61) (lo' := [(0, .ref a)]) (st' := [.int (Int32.ofInt (0)), .int (Int32.ofInt (12)), .ref a]) (h' := h64) rfl ?_
          refine zcl (xs := [.int (Int32.ofInt (0)), .int (Int32.ofInt (12))]) (rest := []) Hh64 zJ_225 rfl (k' := 62) rfl (by omega) rfl rfl (Nat.le_of_ble_eq_true rfl) (M' := z_m221) rfl (Nat.le_of_ble_eq_true rfl) (zS_221 _ _ (by omega) Hh64) (fun v h65 q => ?_)
          obtain ⟨rfl, H4⟩ := q
          show z_ok sx d 225 62 [(0, .ref a)] [] h65 _
          refine zh zJ_225 (i := (0, 0, 0, 1)) rfl rfl (k' := 63) (lo' := [(0, .ref a)]) (st' := [.int (Int32.ofInt (1))]) (h' := h65) rfl ?_
          refine zh_iret zJ_225 (a := 0) (b := 0) (z := 0) rfl (Or.inr ⟨rfl, Or.inr rfl⟩) ?_
          exact ⟨_, rfl, rfl, rfl, _, P3, Q3, D, S3 + 1, _, rfl, H4, Or.inr ⟨rfl, rfl, by omega, h6.not (by omega) (by decide)⟩⟩
        · refine zh zJ_225 (i := (0, 0, 0, 0)) rfl rfl (k' := 51) (lo' := [(0, .ref a)]) (st' := [.int (Int32.ofInt (0))]) (h' := h61) rfl ?_
          refine zh_iret zJ_225 (a := 0) (b := 0) (z := 0) rfl (Or.inr ⟨rfl, Or.inl rfl⟩) ?_
          exact ⟨_, rfl, rfl, rfl, _, P3, Q3, D3, S3, g3, rfl, H3, Or.inl rfl⟩
      · refine zh zJ_225 (i := (0, 0, 0, 0)) rfl rfl (k' := 40) (lo' := [(0, .ref a)]) (st' := [.int (Int32.ofInt (0))]) (h' := h55) rfl ?_
        refine zh_iret zJ_225 (a := 0) (b := 0) (z := 0) rfl (Or.inr ⟨rfl, Or.inl rfl⟩) ?_
        exact ⟨_, rfl, rfl, rfl, _, P2, Q2, D, S, g, rfl, H2, Or.inl rfl⟩
  · have l3 := (l2.resolve_left (fun e => hc45 (by rw [e]; rfl))).2
    refine zh zJ_225 (i := (2, 0, 0, 0)) rfl rfl (k' := 5) (lo' := [(0, .ref a)]) (st' := [.ref a]) (h' := h44) rfl ?_
    refine zg13 H1 zJ_225 rfl (k' := 6) rfl (fun x46 ex46 => ?_)
    refine zh zJ_225 (i := (0, 0, 0, 6)) rfl rfl (k' := 7) (lo' := [(0, .ref a)]) (st' := [.int (Int32.ofInt (6)), .int x46]) (h' := h44) rfl ?_
    refine zh_icmp zJ_225 (a := 10) (b := 1) (z := 0) rfl (fun hc47 => ?_) (fun hc47 => ?_)
    · have hD : D < 6 := (by have := zcmp_ne.mp hc47; rw [zI_c (by decide) (by decide)] at this; omega)
      obtain ⟨m, rfl⟩ : ∃ m, n = m + 1 := ⟨n - 1, by omega⟩
      obtain ⟨gA, gC⟩ := ih m rfl
      refine zh zJ_225 (i := (2, 0, 0, 0)) rfl rfl (k' := 11) (lo' := [(0, .ref a)]) (st' := [.ref a]) (h' := h44) rfl ?_
      refine zh zJ_225 (i := (27, 0, 0, 0)) rfl rfl (k' := 12) (lo' := [(0, .ref a)]) (st' := [.ref a, .ref a]) (h' := h44) rfl ?_
      refine zg13 H1 zJ_225 rfl (k' := 13) rfl (fun x48 ex48 => ?_)
      refine zh zJ_225 (i := (0, 0, 0, 1)) rfl rfl (k' := 14) (lo' := [(0, .ref a)]) (st' := [.int (Int32.ofInt (1)), .int x48, .ref a]) (h' := h44) rfl ?_
      refine zh zJ_225 (i := (8, 0, 0, 0)) rfl rfl (k' := 15) (lo' := [(0, .ref a)]) (st' := [.int (x48 + (Int32.ofInt (1))), .ref a]) (h' := h44) rfl ?_
      refine zp13 H1 zJ_225 rfl (k' := 16) rfl (D + 1) (by rw [zI_add ex48 (zI_c (by decide) (by decide)) (by omega) (by omega)]; omega) (by omega) (fun h49 Hh49 => ?_)
      refine zh zJ_225 (i := (2, 0, 0, 0)) rfl rfl (k' := 17) (lo' := [(0, .ref a)]) (st' := [.ref a]) (h' := h49) rfl ?_
      refine zcl (xs := []) (rest := []) Hh49 zJ_225 rfl (k' := 18) rfl (by omega) rfl rfl (Nat.le_of_ble_eq_true rfl) (M' := z_m227) rfl (Nat.le_of_ble_eq_true rfl) (gC (by omega) (by omega) (by omega) Hh49) (fun v h50 q => ?_)
      obtain ⟨c3, P3, Q3, D3, S3, g3, rfl, H3, h3⟩ := q
      show z_ok sx d 225 18 [(0, .ref a)] [.int c3] h50 _
      refine zh_if zJ_225 (a := 21) (b := 1) (z := 0) rfl (fun hc51 => ?_) (fun hc51 => ?_)
      · obtain ⟨-, rfl, h5, h6⟩ := (h3.resolve_left (fun e => zcmp_ne.mp hc51 (by rw [e])))
        have h7 := h6.1
        refine zh zJ_225 (i := (2, 0, 0, 0)) rfl rfl (k' := 22) (lo' := [(0, .ref a)]) (st' := [.ref a]) (h' := h50) rfl ?_
        refine zh zJ_225 (i := (27, 0, 0, 0)) rfl rfl (k' := 23) (lo' := [(0, .ref a)]) (st' := [.ref a, .ref a]) (h' := h50) rfl ?_
        refine zg13 H3 zJ_225 rfl (k' := 24) rfl (fun x52 ex52 => ?_)
        refine zh zJ_225 (i := (0, 0, 0, 1)) rfl rfl (k' := 25) (lo' := [(0, .ref a)]) (st' := [.int (Int32.ofInt (1)), .int x52, .ref a]) (h' := h50) rfl ?_
        refine zh zJ_225 (i := (9, 0, 0, 0)) rfl rfl (k' := 26) (lo' := [(0, .ref a)]) (st' := [.int (x52 - (Int32.ofInt (1))), .ref a]) (h' := h50) rfl ?_
        refine zp13 H3 zJ_225 rfl (k' := 27) rfl (D) (by rw [zI_sub ex52 (zI_c (by decide) (by decide)) (by omega) (by omega)]; omega) (by omega) (fun h53 Hh53 => ?_)
        refine zh zJ_225 (i := (2, 0, 0, 0)) rfl rfl (k' := 28) (lo' := [(0, .ref a)]) (st' := [.ref a]) (h' := h53) rfl ?_
        refine zh zJ_225 (i := (0, 0, 0, 41)) rfl rfl (k' := 29) (lo' := [(0, .ref a)]) (st' := [.int (Int32.ofInt (41)), .ref a]) (h' := h53) rfl ?_
        refine zcl (xs := [.int (Int32.ofInt (41))]) (rest := []) Hh53 zJ_225 rfl (k' := 30) rfl (by omega) rfl rfl (Nat.le_of_ble_eq_true rfl) (M' := z_m206) rfl (Nat.le_of_ble_eq_true rfl) (zS_206 (by omega) _ Hh53) (fun v h54 q => ?_)
        obtain ⟨c4, P4, Q4, rfl, H4, l4, l5⟩ := q
        show z_ok sx d 225 30 [(0, .ref a)] [.int c4] h54 _
        refine zh_iret zJ_225 (a := 0) (b := 0) (z := 0) rfl (Or.inr ⟨rfl, l5.imp id (fun q => q.1)⟩) ?_
        exact ⟨_, rfl, rfl, rfl, _, P4, Q4, D, S3, g3, rfl, H4, l5.imp id (fun q => ⟨q.1, rfl, by omega, h6⟩)⟩
      · refine zh zJ_225 (i := (0, 0, 0, 0)) rfl rfl (k' := 20) (lo' := [(0, .ref a)]) (st' := [.int (Int32.ofInt (0))]) (h' := h50) rfl ?_
        refine zh_iret zJ_225 (a := 0) (b := 0) (z := 0) rfl (Or.inr ⟨rfl, Or.inl rfl⟩) ?_
        exact ⟨_, rfl, rfl, rfl, _, P3, Q3, D3, S3, g3, rfl, H3, Or.inl rfl⟩
    · refine zh zJ_225 (i := (0, 0, 0, 0)) rfl rfl (k' := 9) (lo' := [(0, .ref a)]) (st' := [.int (Int32.ofInt (0))]) (h' := h44) rfl ?_
      refine zh_iret zJ_225 (a := 0) (b := 0) (z := 0) rfl (Or.inr ⟨rfl, Or.inl rfl⟩) ?_
      exact ⟨_, rfl, rfl, rfl, _, P1, Q1, D, S, g, rfl, H1, Or.inl rfl⟩
theorem zJ_226 : zJ3 226 z_m226 z_c226 z_h226 := ⟨rfl, rfl, rfl⟩
set_option maxRecDepth 100000 in
theorem zLp_226 {sx : zX} {ty : List Nat} {h0 : zH} {a w b E : Nat} {P D S d : Nat} {g : Nat → Int32} {N : Nat} (hA : zGA N) (hN : D + N = 6) (hd : 13 + 3 * N ≤ d) (hS : S + 1 ≤ P) : ∀ (n P1 Q1 S1 : Nat) (g1 : Nat → Int32) (h : zH), 400 - P1 < n → zPS ty h0 a w b E P1 Q1 D S1 g1 h → S1 + P ≤ P1 + S → zCd S g S1 g1 1 → z_ok sx d 226 5 [(0, .ref a)] [] h (zRq (zGs ty h0 a w b E P D S g))
  | 0, _, _, _, _, _, hn, _, _, _ => absurd hn (Nat.not_lt_zero _)
  | n + 1, P1, Q1, S1, g1, h, hn, H, hP1, hcd => by
    obtain ⟨bE, bP, bQ, bD, bS⟩ := H.bd
    refine zh zJ_226 (i := (2, 0, 0, 0)) rfl rfl (k' := 6) (lo' := [(0, .ref a)]) (st' := [.ref a]) (h' := h) rfl ?_
    refine zldc zJ_226 rfl (k' := 7) rfl (by decide +kernel) ?_
    refine zcl (xs := [.ref (zB + 64)]) (rest := []) H zJ_226 rfl (k' := 8) rfl (by omega) rfl rfl (Nat.le_of_ble_eq_true rfl) (M' := z_m205) rfl (Nat.le_of_ble_eq_true rfl) (zS_205 (t := 64) (by omega) rfl (by decide) (by decide) H) (fun v h74 q => ?_)
    obtain ⟨c, P2, Q2, rfl, H2, l1, l2⟩ := q
    show z_ok sx d 226 8 [(0, .ref a)] [.int c] h74 _
    have b2 := H2.bd
    refine zh_if zJ_226 (a := 19) (b := 0) (z := 0) rfl (fun hc75 => ?_) (fun hc75 => ?_)
    · refine zh zJ_226 (i := (0, 0, 0, 1)) rfl rfl (k' := 20) (lo' := [(0, .ref a)]) (st' := [.int (Int32.ofInt (1))]) (h' := h74) rfl ?_
      refine zh_iret zJ_226 (a := 0) (b := 0) (z := 0) rfl (Or.inr ⟨rfl, Or.inr rfl⟩) ?_
      exact ⟨_, rfl, rfl, rfl, _, P2, Q2, D, S1, g1, rfl, H2, Or.inr ⟨rfl, rfl, by omega, hcd⟩⟩
    · have l3 := (l2.resolve_left (fun e => hc75 (by rw [e]; rfl))).2
      refine zh zJ_226 (i := (2, 0, 0, 0)) rfl rfl (k' := 10) (lo' := [(0, .ref a)]) (st' := [.ref a]) (h' := h74) rfl ?_
      refine zcl (xs := []) (rest := []) H2 zJ_226 rfl (k' := 11) rfl (by omega) rfl rfl (Nat.le_of_ble_eq_true rfl) (M' := z_m225) rfl (Nat.le_of_ble_eq_true rfl) (hA (by omega) (by omega) (by omega) H2) (fun v h76 q => ?_)
      obtain ⟨c3, P3, Q3, D3, S3, g3, rfl, H3, h3⟩ := q
      show z_ok sx d 226 11 [(0, .ref a)] [.int c3] h76 _
      refine zh_if zJ_226 (a := 14) (b := 1) (z := 0) rfl (fun hc77 => ?_) (fun hc77 => ?_)
      · obtain ⟨-, rfl, h5, h6⟩ := (h3.resolve_left (fun e => zcmp_ne.mp hc77 (by rw [e])))
        have h7 := h6.1
        have b3 := H3.bd
        refine zh zJ_226 (i := (2, 0, 0, 0)) rfl rfl (k' := 15) (lo' := [(0, .ref a)]) (st' := [.ref a]) (h' := h76) rfl ?_
        refine zh zJ_226 (i := (0, 0, 0, 13)) rfl rfl (k' := 16) (lo' := [(0, .ref a)]) (st' := [.int (Int32.ofInt (13)), .ref a]) (h' := h76) rfl ?_
        refine zh zJ_226 (i := (0, 0, 0, 0)) rfl rfl (k' := 17) (lo' := [(0, .ref a)]) (st' := [.int (Int32.ofInt (0)), .int (Int32.ofInt (13)), .ref a]) (h' := h76) rfl ?_
        refine zcl (xs := [.int (Int32.ofInt (0)), .int (Int32.ofInt (13))]) (rest := []) H3 zJ_226 rfl (k' := 18) rfl (by omega) rfl rfl (Nat.le_of_ble_eq_true rfl) (M' := z_m221) rfl (Nat.le_of_ble_eq_true rfl) (zS_221 _ _ (by omega) H3) (fun v h78 q => ?_)
        obtain ⟨rfl, H4⟩ := q
        show z_ok sx d 226 18 [(0, .ref a)] [] h78 _
        refine zh zJ_226 (i := (30, 5, 0, 0)) rfl rfl (k' := 5) (lo' := [(0, .ref a)]) (st' := []) (h' := h78) rfl ?_
        exact zLp_226 hA hN hd hS n P3 Q3 (S3 + 1) _ _ (by omega) H4 (by omega) ((hcd.two h6).bin (by omega) (by decide) (by decide))
      · refine zh zJ_226 (i := (0, 0, 0, 0)) rfl rfl (k' := 13) (lo' := [(0, .ref a)]) (st' := [.int (Int32.ofInt (0))]) (h' := h76) rfl ?_
        refine zh_iret zJ_226 (a := 0) (b := 0) (z := 0) rfl (Or.inr ⟨rfl, Or.inl rfl⟩) ?_
        exact ⟨_, rfl, rfl, rfl, _, P3, Q3, D3, S3, g3, rfl, H3, Or.inl rfl⟩
set_option maxRecDepth 100000 in
theorem zS_226 {sx : zX} {ty : List Nat} {h0 : zH} {a w b E : Nat} {P Q D S d : Nat} {g : Nat → Int32} {h : zH} {N : Nat} (hA : zGA N) (hN : D + N = 6) (hd : 13 + 3 * N ≤ d) (hS : S + 1 ≤ P) (H : zPS ty h0 a w b E P Q D S g h) : z_ok sx d 226 0 (lv_args 0 [.ref a]) [] h (zRq (zGs ty h0 a w b E P D S g)) := by
  show z_ok sx d 226 0 [(0, .ref a)] [] h _
  refine zh zJ_226 (i := (2, 0, 0, 0)) rfl rfl (k' := 1) (lo' := [(0, .ref a)]) (st' := [.ref a]) (h' := h) rfl ?_
  refine zcl (xs := []) (rest := []) H zJ_226 rfl (k' := 2) rfl (by omega) rfl rfl (Nat.le_of_ble_eq_true rfl) (M' := z_m225) rfl (Nat.le_of_ble_eq_true rfl) (hA (by omega) (by omega) (by omega) H) (fun v h79 q => ?_)
  obtain ⟨c3, P3, Q3, D3, S3, g3, rfl, H3, h3⟩ := q
  show z_ok sx d 226 2 [(0, .ref a)] [.int c3] h79 _
  refine zh_if zJ_226 (a := 5) (b := 1) (z := 0) rfl (fun hc80 => ?_) (fun hc80 => ?_)
  · obtain ⟨-, rfl, h5, h6⟩ := (h3.resolve_left (fun e => zcmp_ne.mp hc80 (by rw [e])))
    exact zLp_226 hA hN hd hS 401 P3 Q3 S3 _ _ (by omega) H3 h5 h6
  · refine zh zJ_226 (i := (0, 0, 0, 0)) rfl rfl (k' := 4) (lo' := [(0, .ref a)]) (st' := [.int (Int32.ofInt (0))]) (h' := h79) rfl ?_
    refine zh_iret zJ_226 (a := 0) (b := 0) (z := 0) rfl (Or.inr ⟨rfl, Or.inl rfl⟩) ?_
    exact ⟨_, rfl, rfl, rfl, _, P3, Q3, D3, S3, g3, rfl, H3, Or.inl rfl⟩
theorem zJ_227 : zJ3 227 z_m227 z_c227 z_h227 := ⟨rfl, rfl, rfl⟩
set_option maxRecDepth 100000 in
theorem zLp_227 {sx : zX} {ty : List Nat} {h0 : zH} {a w b E : Nat} {P D S d : Nat} {g : Nat → Int32} {N : Nat} (hA : zGL N) (hN : D + N = 6) (hd : 14 + 3 * N ≤ d) (hS : S + 1 ≤ P) : ∀ (n P1 Q1 S1 : Nat) (g1 : Nat → Int32) (h : zH), 400 - P1 < n → zPS ty h0 a w b E P1 Q1 D S1 g1 h → S1 + P ≤ P1 + S → zCd S g S1 g1 1 → z_ok sx d 227 5 [(0, .ref a)] [] h (zRq (zGs ty h0 a w b E P D S g))
  | 0, _, _, _, _, _, hn, _, _, _ => absurd hn (Nat.not_lt_zero _)
  | n + 1, P1, Q1, S1, g1, h, hn, H, hP1, hcd => by
    obtain ⟨bE, bP, bQ, bD, bS⟩ := H.bd
    refine zh zJ_227 (i := (2, 0, 0, 0)) rfl rfl (k' := 6) (lo' := [(0, .ref a)]) (st' := [.ref a]) (h' := h) rfl ?_
    refine zldc zJ_227 rfl (k' := 7) rfl (by decide +kernel) ?_
    refine zcl (xs := [.ref (zB + 65)]) (rest := []) H zJ_227 rfl (k' := 8) rfl (by omega) rfl rfl (Nat.le_of_ble_eq_true rfl) (M' := z_m205) rfl (Nat.le_of_ble_eq_true rfl) (zS_205 (t := 65) (by omega) rfl (by decide) (by decide) H) (fun v h81 q => ?_)
    obtain ⟨c, P2, Q2, rfl, H2, l1, l2⟩ := q
    show z_ok sx d 227 8 [(0, .ref a)] [.int c] h81 _
    have b2 := H2.bd
    refine zh_if zJ_227 (a := 19) (b := 0) (z := 0) rfl (fun hc82 => ?_) (fun hc82 => ?_)
    · refine zh zJ_227 (i := (0, 0, 0, 1)) rfl rfl (k' := 20) (lo' := [(0, .ref a)]) (st' := [.int (Int32.ofInt (1))]) (h' := h81) rfl ?_
      refine zh_iret zJ_227 (a := 0) (b := 0) (z := 0) rfl (Or.inr ⟨rfl, Or.inr rfl⟩) ?_
      exact ⟨_, rfl, rfl, rfl, _, P2, Q2, D, S1, g1, rfl, H2, Or.inr ⟨rfl, rfl, by omega, hcd⟩⟩
    · have l3 := (l2.resolve_left (fun e => hc82 (by rw [e]; rfl))).2
      refine zh zJ_227 (i := (2, 0, 0, 0)) rfl rfl (k' := 10) (lo' := [(0, .ref a)]) (st' := [.ref a]) (h' := h81) rfl ?_
      refine zcl (xs := []) (rest := []) H2 zJ_227 rfl (k' := 11) rfl (by omega) rfl rfl (Nat.le_of_ble_eq_true rfl) (M' := z_m226) rfl (Nat.le_of_ble_eq_true rfl) (hA (by omega) (by omega) (by omega) H2) (fun v h83 q => ?_)
      obtain ⟨c3, P3, Q3, D3, S3, g3, rfl, H3, h3⟩ := q
      show z_ok sx d 227 11 [(0, .ref a)] [.int c3] h83 _
      refine zh_if zJ_227 (a := 14) (b := 1) (z := 0) rfl (fun hc84 => ?_) (fun hc84 => ?_)
      · obtain ⟨-, rfl, h5, h6⟩ := (h3.resolve_left (fun e => zcmp_ne.mp hc84 (by rw [e])))
        have h7 := h6.1
        have b3 := H3.bd
        refine zh zJ_227 (i := (2, 0, 0, 0)) rfl rfl (k' := 15) (lo' := [(0, .ref a)]) (st' := [.ref a]) (h' := h83) rfl ?_
        refine zh zJ_227 (i := (0, 0, 0, 14)) rfl rfl (k' := 16) (lo' := [(0, .ref a)]) (st' := [.int (Int32.ofInt (14)), .ref a]) (h' := h83) rfl ?_
        refine zh zJ_227 (i := (0, 0, 0, 0)) rfl rfl (k' := 17) (lo' := [(0, .ref a)]) (st' := [.int (Int32.ofInt (0)), .int (Int32.ofInt (14)), .ref a]) (h' := h83) rfl ?_
        refine zcl (xs := [.int (Int32.ofInt (0)), .int (Int32.ofInt (14))]) (rest := []) H3 zJ_227 rfl (k' := 18) rfl (by omega) rfl rfl (Nat.le_of_ble_eq_true rfl) (M' := z_m221) rfl (Nat.le_of_ble_eq_true rfl) (zS_221 _ _ (by omega) H3) (fun v h85 q => ?_)
        obtain ⟨rfl, H4⟩ := q
        show z_ok sx d 227 18 [(0, .ref a)] [] h85 _
        refine zh zJ_227 (i := (30, 5, 0, 0)) rfl rfl (k' := 5) (lo' := [(0, .ref a)]) (st' := []) (h' := h85) rfl ?_
        exact zLp_227 hA hN hd hS n P3 Q3 (S3 + 1) _ _ (by omega) H4 (by omega) ((hcd.two h6).bin (by omega) (by decide) (by decide))
      · refine zh zJ_227 (i := (0, 0, 0, 0)) rfl rfl (k' := 13) (lo' := [(0, .ref a)]) (st' := [.int (Int32.ofInt (0))]) (h' := h83) rfl ?_
        refine zh_iret zJ_227 (a := 0) (b := 0) (z := 0) rfl (Or.inr ⟨rfl, Or.inl rfl⟩) ?_
        exact ⟨_, rfl, rfl, rfl, _, P3, Q3, D3, S3, g3, rfl, H3, Or.inl rfl⟩
set_option maxRecDepth 100000 in
theorem zS_227 {sx : zX} {ty : List Nat} {h0 : zH} {a w b E : Nat} {P Q D S d : Nat} {g : Nat → Int32} {h : zH} {N : Nat} (hA : zGL N) (hN : D + N = 6) (hd : 14 + 3 * N ≤ d) (hS : S + 1 ≤ P) (H : zPS ty h0 a w b E P Q D S g h) : z_ok sx d 227 0 (lv_args 0 [.ref a]) [] h (zRq (zGs ty h0 a w b E P D S g)) := by
  show z_ok sx d 227 0 [(0, .ref a)] [] h _
  refine zh zJ_227 (i := (2, 0, 0, 0)) rfl rfl (k' := 1) (lo' := [(0, .ref a)]) (st' := [.ref a]) (h' := h) rfl ?_
  refine zcl (xs := []) (rest := []) H zJ_227 rfl (k' := 2) rfl (by omega) rfl rfl (Nat.le_of_ble_eq_true rfl) (M' := z_m226) rfl (Nat.le_of_ble_eq_true rfl) (hA (by omega) (by omega) (by omega) H) (fun v h86 q => ?_)
  obtain ⟨c3, P3, Q3, D3, S3, g3, rfl, H3, h3⟩ := q
  show z_ok sx d 227 2 [(0, .ref a)] [.int c3] h86 _
  refine zh_if zJ_227 (a := 5) (b := 1) (z := 0) rfl (fun hc87 => ?_) (fun hc87 => ?_)
  · obtain ⟨-, rfl, h5, h6⟩ := (h3.resolve_left (fun e => zcmp_ne.mp hc87 (by rw [e])))
    exact zLp_227 hA hN hd hS 401 P3 Q3 S3 _ _ (by omega) H3 h5 h6
  · refine zh zJ_227 (i := (0, 0, 0, 0)) rfl rfl (k' := 4) (lo' := [(0, .ref a)]) (st' := [.int (Int32.ofInt (0))]) (h' := h86) rfl ?_
    refine zh_iret zJ_227 (a := 0) (b := 0) (z := 0) rfl (Or.inr ⟨rfl, Or.inl rfl⟩) ?_
    exact ⟨_, rfl, rfl, rfl, _, P3, Q3, D3, S3, g3, rfl, H3, Or.inl rfl⟩
theorem zGr_all : ∀ n, zGA n ∧ zGC n
  | 0 => by
    have hA : zGA 0 := zS_225 0 (fun m e => by omega)
    have hL : zGL 0 := fun hn hd hS H => zS_226 hA hn hd hS H
    exact ⟨hA, fun hn hd hS H => zS_227 hL hn hd hS H⟩
  | n + 1 => by
    have hA : zGA (n + 1) := zS_225 (n + 1) (fun m e => by
      have e : m = n := by omega
      subst e
      exact zGr_all m)
    have hL : zGL (n + 1) := fun hn hd hS H => zS_226 hA hn hd hS H
    exact ⟨hA, fun hn hd hS H => zS_227 hL hn hd hS H⟩
end
section
/-! the reference's reader: lines of a law; printed with wip/gen/gen_rd4.py -/
theorem zupd_at {f : Nat → Int32} {i : Nat} {x : Int32} : upd f i x i = x := if_pos rfl
theorem zupd_ne {f : Nat → Int32} {i j : Nat} {x : Int32} (h : j ≠ i) : upd f i x j = f j := if_neg h
theorem zPs_cg {g g' : Nat → Int32} : ∀ {n i t t' : Nat}, (∀ k, 1286 ≤ k → k < 1286 + 2 * (i + n) → g' k = g k) → zPs g n i t t' → zPs g' n i t t'
  | 0, _, _, _, _, h => h
  | n + 1, i, t, t', hc, h => by
    obtain ⟨a1, a2⟩ := h
    refine ⟨a1, ?_⟩
    have hc' : ∀ k, 1286 ≤ k → k < 1286 + 2 * (i + 1 + n) → g' k = g k := fun k h1 hk => hc k h1 (by omega)
    rw [hc (1286 + 2 * i) (by omega) (by omega)]
    split
    · next h3 => rw [if_pos h3] at a2; exact ⟨a2.1, zPs_cg hc' a2.2⟩
    · next h3 =>
      rw [if_neg h3] at a2
      split
      · next h4 => rw [if_pos h4] at a2; exact ⟨a2.1, zPs_cg hc' a2.2⟩
      · next h4 => rw [if_neg h4] at a2; exact ⟨a2.1, zPs_cg hc' a2.2⟩
/-- a line of the draft, its code from s to e -/
noncomputable def zLd (g : Nat → Int32) (l s e : Nat) : Prop := (g (1240 + 4 * l)).toInt = (s : Int) ∧ (g (1241 + 4 * l)).toInt = (e : Int) ∧ s ≤ e ∧ ∃ t', zPs g (e - s) s 0 t'
noncomputable def zLne (N S : Nat) (g : Nat → Int32) (S' : Nat) (g' : Nat → Int32) : Prop := zLd g' N S S' ∧ ∀ k, (k < 1238 + 4 * N ∨ (1286 ≤ k ∧ k < 1286 + 2 * S)) → g' k = g k
noncomputable def zRL (ty : List Nat) (h0 : zH) (a w b E S N : Nat) (g : Nat → Int32) : Option Value → zH → Prop := fun r h' => ∃ (c : Int32) (P' Q' D' S' : Nat) (g' : Nat → Int32), r = some (.int c) ∧ zPS ty h0 a w b E P' Q' D' S' g' h' ∧ (c = 0 ∨ (c = 1 ∧ N ≤ 11 ∧ S' ≤ P' ∧ zLne N S g S' g'))
theorem zJ_228 : zJ3 228 z_m228 z_c228 z_h228 := ⟨rfl, rfl, rfl⟩
set_option maxRecDepth 100000 in
theorem zTl_228 {sx : zX} {ty : List Nat} {h0 : zH} {a w b E : Nat} {D S d : Nat} {g : Nat → Int32} {h : zH} {P1 Q1 S1 N : Nat} {g1 : Nat → Int32} {kv nn : Int32} (ek : kv.toInt = ((1238 + 4 * N : Nat) : Int)) (hN : N ≤ 11) (H : zPS ty h0 a w b E P1 Q1 D S1 g1 h) (hP : S1 ≤ P1) (hz : ∀ v : Int32, v.toInt = (S1 : Int) → zLne N S g S1 (upd g1 (1241 + 4 * N) v)) : z_ok sx d 228 75 [(2, .int kv), (0, .ref a), (1, .int nn)] [] h (zRq (zRL ty h0 a w b E S N g)) := by
  obtain ⟨bE, bP, bQ, bD, bS⟩ := H.bd
  refine zh zJ_228 (i := (2, 0, 0, 0)) rfl rfl (k' := 76) (lo' := [(2, .int kv), (0, .ref a), (1, .int nn)]) (st' := [.ref a]) (h' := h) rfl ?_
  refine zg1 H zJ_228 rfl (k' := 77) rfl ?_
  refine zh zJ_228 (i := (1, 2, 0, 0)) rfl rfl (k' := 78) (lo' := [(2, .int kv), (0, .ref a), (1, .int nn)]) (st' := [.int kv, .ref w]) (h' := h) rfl ?_
  refine zh zJ_228 (i := (0, 0, 0, 3)) rfl rfl (k' := 79) (lo' := [(2, .int kv), (0, .ref a), (1, .int nn)]) (st' := [.int (Int32.ofInt (3)), .int kv, .ref w]) (h' := h) rfl ?_
  refine zh zJ_228 (i := (8, 0, 0, 0)) rfl rfl (k' := 80) (lo' := [(2, .int kv), (0, .ref a), (1, .int nn)]) (st' := [.int (kv + (Int32.ofInt (3))), .ref w]) (h' := h) rfl ?_
  refine zh zJ_228 (i := (2, 0, 0, 0)) rfl rfl (k' := 81) (lo' := [(2, .int kv), (0, .ref a), (1, .int nn)]) (st' := [.ref a, .int (kv + (Int32.ofInt (3))), .ref w]) (h' := h) rfl ?_
  refine zg16 H zJ_228 rfl (k' := 82) rfl (fun x1 ex1 => ?_)
  refine zpw H zJ_228 rfl (k' := 83) rfl (1241 + 4 * N) (by rw [zI_add ek (zI_c (by decide) (by decide)) (by omega) (by omega)]; omega) (by omega) (by omega) (fun h2 Hh2 => ?_)
  refine zh zJ_228 (i := (0, 0, 0, 1)) rfl rfl (k' := 84) (lo' := [(2, .int kv), (0, .ref a), (1, .int nn)]) (st' := [.int (Int32.ofInt (1))]) (h' := h2) rfl ?_
  refine zh_iret zJ_228 (a := 0) (b := 0) (z := 0) rfl (Or.inr ⟨rfl, Or.inr rfl⟩) ?_
  exact ⟨_, rfl, rfl, rfl, _, P1, Q1, D, S1, _, rfl, Hh2, Or.inr ⟨rfl, hN, hP, hz _ ex1⟩⟩
set_option maxRecDepth 100000 in
theorem zTm_228 {sx : zX} {ty : List Nat} {h0 : zH} {a w b E : Nat} {P Q D S d : Nat} {g : Nat → Int32} {h : zH} {N : Nat} {kv nn t : Int32} (hd : 33 ≤ d) (ek : kv.toInt = ((1238 + 4 * N : Nat) : Int)) (hN : N ≤ 11) (hP : S ≤ P) (H : zPS ty h0 a w b E P Q D S g h) : z_ok sx d 228 28 [(2, .int kv), (0, .ref a), (1, .int nn)] [.int t, .int kv, .ref w] h (zRq (zRL ty h0 a w b E S N g)) := by
  obtain ⟨bE, bP, bQ, bD, bS⟩ := H.bd
  refine zpw H zJ_228 rfl (k' := 29) rfl (1238 + 4 * N) ek (by omega) (by omega) (fun h3 Hh3 => ?_)
  refine zh zJ_228 (i := (2, 0, 0, 0)) rfl rfl (k' := 30) (lo' := [(2, .int kv), (0, .ref a), (1, .int nn)]) (st' := [.ref a]) (h' := h3) rfl ?_
  refine zg1 Hh3 zJ_228 rfl (k' := 31) rfl ?_
  refine zh zJ_228 (i := (1, 2, 0, 0)) rfl rfl (k' := 32) (lo' := [(2, .int kv), (0, .ref a), (1, .int nn)]) (st' := [.int kv, .ref w]) (h' := h3) rfl ?_
  refine zlwd Hh3 zJ_228 rfl (k' := 33) rfl (1238 + 4 * N) ek (by omega) ?_
  refine zh_if zJ_228 (a := 36) (b := 3) (z := 0) rfl (fun hc4 => ?_) (fun hc4 => ?_)
  · refine zh zJ_228 (i := (2, 0, 0, 0)) rfl rfl (k' := 37) (lo' := [(2, .int kv), (0, .ref a), (1, .int nn)]) (st' := [.ref a]) (h' := h3) rfl ?_
    refine zg1 Hh3 zJ_228 rfl (k' := 38) rfl ?_
    refine zh zJ_228 (i := (1, 2, 0, 0)) rfl rfl (k' := 39) (lo' := [(2, .int kv), (0, .ref a), (1, .int nn)]) (st' := [.int kv, .ref w]) (h' := h3) rfl ?_
    refine zh zJ_228 (i := (0, 0, 0, 1)) rfl rfl (k' := 40) (lo' := [(2, .int kv), (0, .ref a), (1, .int nn)]) (st' := [.int (Int32.ofInt (1)), .int kv, .ref w]) (h' := h3) rfl ?_
    refine zh zJ_228 (i := (8, 0, 0, 0)) rfl rfl (k' := 41) (lo' := [(2, .int kv), (0, .ref a), (1, .int nn)]) (st' := [.int (kv + (Int32.ofInt (1))), .ref w]) (h' := h3) rfl ?_
    refine zh zJ_228 (i := (2, 0, 0, 0)) rfl rfl (k' := 42) (lo' := [(2, .int kv), (0, .ref a), (1, .int nn)]) (st' := [.ref a, .int (kv + (Int32.ofInt (1))), .ref w]) (h' := h3) rfl ?_
    refine zh zJ_228 (i := (0, 0, 0, 0)) rfl rfl (k' := 43) (lo' := [(2, .int kv), (0, .ref a), (1, .int nn)]) (st' := [.int (Int32.ofInt (0)), .ref a, .int (kv + (Int32.ofInt (1))), .ref w]) (h' := h3) rfl ?_
    refine zh zJ_228 (i := (0, 0, 0, 20)) rfl rfl (k' := 44) (lo' := [(2, .int kv), (0, .ref a), (1, .int nn)]) (st' := [.int (Int32.ofInt (20)), .int (Int32.ofInt (0)), .ref a, .int (kv + (Int32.ofInt (1))), .ref w]) (h' := h3) rfl ?_
    refine zcl (xs := [.int (Int32.ofInt (20)), .int (Int32.ofInt (0))]) (rest := [.int (kv + (Int32.ofInt (1))), .ref w]) Hh3 zJ_228 rfl (k' := 45) rfl (by omega) rfl rfl (Nat.le_of_ble_eq_true rfl) (M' := z_m207) rfl (Nat.le_of_ble_eq_true rfl) (zS_207 (by omega) _ _ Hh3) (fun v h5 q => ?_)
    obtain ⟨c, P2, Q2, rfl, H2, h3, h4⟩ := q
    show z_ok sx d 228 45 [(2, .int kv), (0, .ref a), (1, .int nn)] [.int c, .int (kv + (Int32.ofInt (1))), .ref w] h5 _
    have b2 := H2.bd
    refine zpw H2 zJ_228 rfl (k' := 46) rfl (1239 + 4 * N) (by rw [zI_add ek (zI_c (by decide) (by decide)) (by omega) (by omega)]; omega) (by omega) (by omega) (fun h6 Hh6 => ?_)
    refine zh zJ_228 (i := (2, 0, 0, 0)) rfl rfl (k' := 47) (lo' := [(2, .int kv), (0, .ref a), (1, .int nn)]) (st' := [.ref a]) (h' := h6) rfl ?_
    refine zg1 Hh6 zJ_228 rfl (k' := 48) rfl ?_
    refine zh zJ_228 (i := (1, 2, 0, 0)) rfl rfl (k' := 49) (lo' := [(2, .int kv), (0, .ref a), (1, .int nn)]) (st' := [.int kv, .ref w]) (h' := h6) rfl ?_
    refine zh zJ_228 (i := (0, 0, 0, 1)) rfl rfl (k' := 50) (lo' := [(2, .int kv), (0, .ref a), (1, .int nn)]) (st' := [.int (Int32.ofInt (1)), .int kv, .ref w]) (h' := h6) rfl ?_
    refine zh zJ_228 (i := (8, 0, 0, 0)) rfl rfl (k' := 51) (lo' := [(2, .int kv), (0, .ref a), (1, .int nn)]) (st' := [.int (kv + (Int32.ofInt (1))), .ref w]) (h' := h6) rfl ?_
    refine zlwd Hh6 zJ_228 rfl (k' := 52) rfl (1239 + 4 * N) (by rw [zI_add ek (zI_c (by decide) (by decide)) (by omega) (by omega)]; omega) (by omega) ?_
    rw [zupd_at]
    refine zh_if zJ_228 (a := 55) (b := 3) (z := 0) rfl (fun hc7 => ?_) (fun hc7 => ?_)
    · have h0c : 0 ≤ c.toInt := zcmp_ge.mp hc7
      have hP2 : P + 1 ≤ P2 := h4.resolve_left (by omega)
      refine zh zJ_228 (i := (2, 0, 0, 0)) rfl rfl (k' := 56) (lo' := [(2, .int kv), (0, .ref a), (1, .int nn)]) (st' := [.ref a]) (h' := h6) rfl ?_
      refine zg1 Hh6 zJ_228 rfl (k' := 57) rfl ?_
      refine zh zJ_228 (i := (1, 2, 0, 0)) rfl rfl (k' := 58) (lo' := [(2, .int kv), (0, .ref a), (1, .int nn)]) (st' := [.int kv, .ref w]) (h' := h6) rfl ?_
      refine zh zJ_228 (i := (0, 0, 0, 2)) rfl rfl (k' := 59) (lo' := [(2, .int kv), (0, .ref a), (1, .int nn)]) (st' := [.int (Int32.ofInt (2)), .int kv, .ref w]) (h' := h6) rfl ?_
      refine zh zJ_228 (i := (8, 0, 0, 0)) rfl rfl (k' := 60) (lo' := [(2, .int kv), (0, .ref a), (1, .int nn)]) (st' := [.int (kv + (Int32.ofInt (2))), .ref w]) (h' := h6) rfl ?_
      refine zh zJ_228 (i := (2, 0, 0, 0)) rfl rfl (k' := 61) (lo' := [(2, .int kv), (0, .ref a), (1, .int nn)]) (st' := [.ref a, .int (kv + (Int32.ofInt (2))), .ref w]) (h' := h6) rfl ?_
      refine zg16 Hh6 zJ_228 rfl (k' := 62) rfl (fun x8 ex8 => ?_)
      refine zpw Hh6 zJ_228 rfl (k' := 63) rfl (1240 + 4 * N) (by rw [zI_add ek (zI_c (by decide) (by decide)) (by omega) (by omega)]; omega) (by omega) (by omega) (fun h9 Hh9 => ?_)
      refine zh zJ_228 (i := (2, 0, 0, 0)) rfl rfl (k' := 64) (lo' := [(2, .int kv), (0, .ref a), (1, .int nn)]) (st' := [.ref a]) (h' := h9) rfl ?_
      refine zh zJ_228 (i := (0, 0, 0, 0)) rfl rfl (k' := 65) (lo' := [(2, .int kv), (0, .ref a), (1, .int nn)]) (st' := [.int (Int32.ofInt (0)), .ref a]) (h' := h9) rfl ?_
      refine zp13 Hh9 zJ_228 rfl (k' := 66) rfl (0) rfl (by omega) (fun h10 Hh10 => ?_)
      refine zh zJ_228 (i := (2, 0, 0, 0)) rfl rfl (k' := 67) (lo' := [(2, .int kv), (0, .ref a), (1, .int nn)]) (st' := [.ref a]) (h' := h10) rfl ?_
      refine zldc zJ_228 rfl (k' := 68) rfl (by decide +kernel) ?_
      refine zcl (xs := [.ref (zB + 67)]) (rest := []) Hh10 zJ_228 rfl (k' := 69) rfl (by omega) rfl rfl (Nat.le_of_ble_eq_true rfl) (M' := z_m205) rfl (Nat.le_of_ble_eq_true rfl) (zS_205 (t := 67) (by omega) rfl (by decide) (by decide) Hh10) (fun v h11 q => ?_)
      obtain ⟨c4, P4, Q4, rfl, H4, k1, k2⟩ := q
      show z_ok sx d 228 69 [(2, .int kv), (0, .ref a), (1, .int nn)] [.int c4] h11 _
      refine zh_if zJ_228 (a := 75) (b := 0) (z := 0) rfl (fun hc12 => ?_) (fun hc12 => ?_)
      · exact zTl_228 ek hN H4 (by omega) (fun v hv => ⟨⟨by rw [zupd_ne (by omega), zupd_at]; exact ex8, by rw [zupd_at]; exact hv, Nat.le_refl _, 0, by rw [Nat.sub_self]; rfl⟩, fun k hk => by rw [zupd_ne (by omega), zupd_ne (by omega), zupd_ne (by omega), zupd_ne (by omega)]⟩)
      · refine zh zJ_228 (i := (2, 0, 0, 0)) rfl rfl (k' := 71) (lo' := [(2, .int kv), (0, .ref a), (1, .int nn)]) (st' := [.ref a]) (h' := h11) rfl ?_
        refine zcl (xs := []) (rest := []) H4 zJ_228 rfl (k' := 72) rfl (by omega) rfl rfl (Nat.le_of_ble_eq_true rfl) (M' := z_m227) rfl (Nat.le_of_ble_eq_true rfl) ((zGr_all 6).2 (by omega) (by omega) (by omega) H4) (fun v h13 q => ?_)
        obtain ⟨c5, P5, Q5, D5, S5, g5, rfl, H5, h5⟩ := q
        show z_ok sx d 228 72 [(2, .int kv), (0, .ref a), (1, .int nn)] [.int c5] h13 _
        refine zh_if zJ_228 (a := 75) (b := 1) (z := 0) rfl (fun hc14 => ?_) (fun hc14 => ?_)
        · obtain ⟨-, rfl, h6, h7, h8, h9⟩ := (h5.resolve_left (fun e => zcmp_ne.mp hc14 (by rw [e])))
          have b5 := H5.bd
          exact zTl_228 ek hN H5 (by omega) (fun v hv => ⟨⟨by rw [zupd_ne (by omega), h8 _ (by omega), zupd_at]; exact ex8, by rw [zupd_at]; exact hv, h7, 1, zPs_cg (fun k k1 k2 => zupd_ne (by omega)) (h9 0 (by omega))⟩, fun k hk => by rw [zupd_ne (by omega), h8 k (by omega), zupd_ne (by omega), zupd_ne (by omega), zupd_ne (by omega)]⟩)
        · refine zh zJ_228 (i := (0, 0, 0, 0)) rfl rfl (k' := 74) (lo' := [(2, .int kv), (0, .ref a), (1, .int nn)]) (st' := [.int (Int32.ofInt (0))]) (h' := h13) rfl ?_
          refine zh_iret zJ_228 (a := 0) (b := 0) (z := 0) rfl (Or.inr ⟨rfl, Or.inl rfl⟩) ?_
          exact ⟨_, rfl, rfl, rfl, _, P5, Q5, D5, S5, g5, rfl, H5, Or.inl rfl⟩
    · refine zh zJ_228 (i := (0, 0, 0, 0)) rfl rfl (k' := 54) (lo' := [(2, .int kv), (0, .ref a), (1, .int nn)]) (st' := [.int (Int32.ofInt (0))]) (h' := h6) rfl ?_
      refine zh_iret zJ_228 (a := 0) (b := 0) (z := 0) rfl (Or.inr ⟨rfl, Or.inl rfl⟩) ?_
      exact ⟨_, rfl, rfl, rfl, _, P2, Q2, D, S, _, rfl, Hh6, Or.inl rfl⟩
  · refine zh zJ_228 (i := (0, 0, 0, 0)) rfl rfl (k' := 35) (lo' := [(2, .int kv), (0, .ref a), (1, .int nn)]) (st' := [.int (Int32.ofInt (0))]) (h' := h3) rfl ?_
    refine zh_iret zJ_228 (a := 0) (b := 0) (z := 0) rfl (Or.inr ⟨rfl, Or.inl rfl⟩) ?_
    exact ⟨_, rfl, rfl, rfl, _, P, Q, D, S, _, rfl, Hh3, Or.inl rfl⟩
set_option maxRecDepth 100000 in
theorem zS_228 {sx : zX} {ty : List Nat} {h0 : zH} {a w b E : Nat} {P Q D S d : Nat} {g : Nat → Int32} {h : zH} {N : Nat} {nn : Int32} (hd : 33 ≤ d) (en : nn.toInt = (N : Int)) (hN : N ≤ 11) (hP : S ≤ P) (H : zPS ty h0 a w b E P Q D S g h) : z_ok sx d 228 0 (lv_args 0 [.ref a, .int nn]) [] h (zRq (zRL ty h0 a w b E S N g)) := by
  show z_ok sx d 228 0 [(0, .ref a), (1, .int nn)] [] h _
  refine zh zJ_228 (i := (0, 0, 0, 1238)) rfl rfl (k' := 1) (lo' := [(0, .ref a), (1, .int nn)]) (st' := [.int (Int32.ofInt (1238))]) (h' := h) rfl ?_
  refine zh zJ_228 (i := (0, 0, 0, 4)) rfl rfl (k' := 2) (lo' := [(0, .ref a), (1, .int nn)]) (st' := [.int (Int32.ofInt (4)), .int (Int32.ofInt (1238))]) (h' := h) rfl ?_
  refine zh zJ_228 (i := (1, 1, 0, 0)) rfl rfl (k' := 3) (lo' := [(0, .ref a), (1, .int nn)]) (st' := [.int nn, .int (Int32.ofInt (4)), .int (Int32.ofInt (1238))]) (h' := h) rfl ?_
  refine zh zJ_228 (i := (10, 0, 0, 0)) rfl rfl (k' := 4) (lo' := [(0, .ref a), (1, .int nn)]) (st' := [.int ((Int32.ofInt (4)) * nn), .int (Int32.ofInt (1238))]) (h' := h) rfl ?_
  refine zh zJ_228 (i := (8, 0, 0, 0)) rfl rfl (k' := 5) (lo' := [(0, .ref a), (1, .int nn)]) (st' := [.int ((Int32.ofInt (1238)) + ((Int32.ofInt (4)) * nn))]) (h' := h) rfl ?_
  have ek : (((Int32.ofInt (1238)) + ((Int32.ofInt (4)) * nn))).toInt = ((1238 + 4 * N : Nat) : Int) := by
    rw [zI_add (zI_c (by decide) (by decide)) (zI_mul (zI_c (by decide) (by decide)) en (by omega) (by omega)) (by omega) (by omega)]
    omega
  generalize ((Int32.ofInt (1238)) + ((Int32.ofInt (4)) * nn)) = kv at ek ⊢
  refine zh zJ_228 (i := (4, 2, 0, 0)) rfl rfl (k' := 6) (lo' := [(2, .int kv), (0, .ref a), (1, .int nn)]) (st' := []) (h' := h) rfl ?_
  refine zh zJ_228 (i := (2, 0, 0, 0)) rfl rfl (k' := 7) (lo' := [(2, .int kv), (0, .ref a), (1, .int nn)]) (st' := [.ref a]) (h' := h) rfl ?_
  refine zg1 H zJ_228 rfl (k' := 8) rfl ?_
  refine zh zJ_228 (i := (1, 2, 0, 0)) rfl rfl (k' := 9) (lo' := [(2, .int kv), (0, .ref a), (1, .int nn)]) (st' := [.int kv, .ref w]) (h' := h) rfl ?_
  refine zh zJ_228 (i := (2, 0, 0, 0)) rfl rfl (k' := 10) (lo' := [(2, .int kv), (0, .ref a), (1, .int nn)]) (st' := [.ref a, .int kv, .ref w]) (h' := h) rfl ?_
  refine zldc zJ_228 rfl (k' := 11) rfl (by decide +kernel) ?_
  refine zcl (xs := [.ref (zB + 66)]) (rest := [.int kv, .ref w]) H zJ_228 rfl (k' := 12) rfl (by omega) rfl rfl (Nat.le_of_ble_eq_true rfl) (M' := z_m204) rfl (Nat.le_of_ble_eq_true rfl) (zS_204 (t := 66) (by omega) rfl (by decide) (by decide) H) (fun v h15 q => ?_)
  obtain ⟨rfl, c, rfl, hc⟩ := q
  show z_ok sx d 228 12 [(2, .int kv), (0, .ref a), (1, .int nn)] [.int c, .int kv, .ref w] h15 _
  refine zh_if zJ_228 (a := 15) (b := 0) (z := 0) rfl (fun hc16 => ?_) (fun hc16 => ?_)
  · refine zh zJ_228 (i := (2, 0, 0, 0)) rfl rfl (k' := 16) (lo' := [(2, .int kv), (0, .ref a), (1, .int nn)]) (st' := [.ref a, .int kv, .ref w]) (h' := h15) rfl ?_
    refine zldc zJ_228 rfl (k' := 17) rfl (by decide +kernel) ?_
    refine zcl (xs := [.ref (zB + 44)]) (rest := [.int kv, .ref w]) H zJ_228 rfl (k' := 18) rfl (by omega) rfl rfl (Nat.le_of_ble_eq_true rfl) (M' := z_m204) rfl (Nat.le_of_ble_eq_true rfl) (zS_204 (t := 44) (by omega) rfl (by decide) (by decide) H) (fun v h17 q => ?_)
    obtain ⟨rfl, c, rfl, hc⟩ := q
    show z_ok sx d 228 18 [(2, .int kv), (0, .ref a), (1, .int nn)] [.int c, .int kv, .ref w] h17 _
    refine zh_if zJ_228 (a := 21) (b := 0) (z := 0) rfl (fun hc18 => ?_) (fun hc18 => ?_)
    · refine zh zJ_228 (i := (2, 0, 0, 0)) rfl rfl (k' := 22) (lo' := [(2, .int kv), (0, .ref a), (1, .int nn)]) (st' := [.ref a, .int kv, .ref w]) (h' := h17) rfl ?_
      refine zldc zJ_228 rfl (k' := 23) rfl (by decide +kernel) ?_
      refine zcl (xs := [.ref (zB + 54)]) (rest := [.int kv, .ref w]) H zJ_228 rfl (k' := 24) rfl (by omega) rfl rfl (Nat.le_of_ble_eq_true rfl) (M' := z_m204) rfl (Nat.le_of_ble_eq_true rfl) (zS_204 (t := 54) (by omega) rfl (by decide) (by decide) H) (fun v h19 q => ?_)
      obtain ⟨rfl, c, rfl, hc⟩ := q
      show z_ok sx d 228 24 [(2, .int kv), (0, .ref a), (1, .int nn)] [.int c, .int kv, .ref w] h19 _
      refine zh_if zJ_228 (a := 27) (b := 0) (z := 0) rfl (fun hc20 => ?_) (fun hc20 => ?_)
      · refine zh zJ_228 (i := (0, 0, 0, -1)) rfl rfl (k' := 28) (lo' := [(2, .int kv), (0, .ref a), (1, .int nn)]) (st' := [.int (Int32.ofInt (-1)), .int kv, .ref w]) (h' := h19) rfl ?_
        exact zTm_228 (by omega) ek hN hP H
      · refine zh zJ_228 (i := (0, 0, 0, 2)) rfl rfl (k' := 26) (lo' := [(2, .int kv), (0, .ref a), (1, .int nn)]) (st' := [.int (Int32.ofInt (2)), .int kv, .ref w]) (h' := h19) rfl ?_
        refine zh zJ_228 (i := (30, 28, 0, 0)) rfl rfl (k' := 28) (lo' := [(2, .int kv), (0, .ref a), (1, .int nn)]) (st' := [.int (Int32.ofInt (2)), .int kv, .ref w]) (h' := h19) rfl ?_
        exact zTm_228 (by omega) ek hN hP H
    · refine zh zJ_228 (i := (0, 0, 0, 1)) rfl rfl (k' := 20) (lo' := [(2, .int kv), (0, .ref a), (1, .int nn)]) (st' := [.int (Int32.ofInt (1)), .int kv, .ref w]) (h' := h17) rfl ?_
      refine zh zJ_228 (i := (30, 28, 0, 0)) rfl rfl (k' := 28) (lo' := [(2, .int kv), (0, .ref a), (1, .int nn)]) (st' := [.int (Int32.ofInt (1)), .int kv, .ref w]) (h' := h17) rfl ?_
      exact zTm_228 (by omega) ek hN hP H
  · refine zh zJ_228 (i := (0, 0, 0, 0)) rfl rfl (k' := 14) (lo' := [(2, .int kv), (0, .ref a), (1, .int nn)]) (st' := [.int (Int32.ofInt (0)), .int kv, .ref w]) (h' := h15) rfl ?_
    refine zh zJ_228 (i := (30, 28, 0, 0)) rfl rfl (k' := 28) (lo' := [(2, .int kv), (0, .ref a), (1, .int nn)]) (st' := [.int (Int32.ofInt (0)), .int kv, .ref w]) (h' := h15) rfl ?_
    exact zTm_228 (by omega) ek hN hP H
theorem zJ_229 : zJ3 229 z_m229 z_c229 z_h229 := ⟨rfl, rfl, rfl⟩
set_option maxRecDepth 100000 in
theorem zS_229 {sx : zX} {ty : List Nat} {h0 : zH} {a w b E : Nat} {P Q D S d : Nat} {g : Nat → Int32} {h : zH} {N : Nat} {nn : Int32} (hd : 34 ≤ d) (en : nn.toInt = (N : Int)) (hP : S ≤ P) (H : zPS ty h0 a w b E P Q D S g h) : z_ok sx d 229 0 (lv_args 0 [.ref a, .int (Int32.ofInt (0)), .int nn]) [] h (zRq (zRL ty h0 a w b E S N g)) := by
  show z_ok sx d 229 0 [(0, .ref a), (1, .int (Int32.ofInt (0))), (2, .int nn)] [] h _
  refine zh zJ_229 (i := (2, 0, 0, 0)) rfl rfl (k' := 1) (lo' := [(0, .ref a), (1, .int (Int32.ofInt (0))), (2, .int nn)]) (st' := [.ref a]) (h' := h) rfl ?_
  refine zcl (xs := []) (rest := []) H zJ_229 rfl (k' := 2) rfl (by omega) rfl rfl (Nat.le_of_ble_eq_true rfl) (M' := z_m203) rfl (Nat.le_of_ble_eq_true rfl) (zS_203 (by omega) H) (fun v h21 q => ?_)
  obtain ⟨rfl, P1, Q1, h1, h2, H1⟩ := q
  show z_ok sx d 229 2 [(0, .ref a), (1, .int (Int32.ofInt (0))), (2, .int nn)] [] h21 _
  refine zh zJ_229 (i := (1, 2, 0, 0)) rfl rfl (k' := 3) (lo' := [(0, .ref a), (1, .int (Int32.ofInt (0))), (2, .int nn)]) (st' := [.int nn]) (h' := h21) rfl ?_
  refine zh zJ_229 (i := (1, 1, 0, 0)) rfl rfl (k' := 4) (lo' := [(0, .ref a), (1, .int (Int32.ofInt (0))), (2, .int nn)]) (st' := [.int (Int32.ofInt (0)), .int nn]) (h' := h21) rfl ?_
  refine zh_if zJ_229 (a := 7) (b := 0) (z := 0) rfl (fun hc22 => ?_) (fun hc22 => ?_)
  · refine zh zJ_229 (i := (0, 0, 0, 12)) rfl rfl (k' := 8) (lo' := [(0, .ref a), (1, .int (Int32.ofInt (0))), (2, .int nn)]) (st' := [.int (Int32.ofInt (12)), .int nn]) (h' := h21) rfl ?_
    refine zh_icmp zJ_229 (a := 21) (b := 3) (z := 0) rfl (fun hc23 => ?_) (fun hc23 => ?_)
    · refine zh zJ_229 (i := (0, 0, 0, 0)) rfl rfl (k' := 22) (lo' := [(0, .ref a), (1, .int (Int32.ofInt (0))), (2, .int nn)]) (st' := [.int (Int32.ofInt (0))]) (h' := h21) rfl ?_
      refine zh_iret zJ_229 (a := 0) (b := 0) (z := 0) rfl (Or.inr ⟨rfl, Or.inl rfl⟩) ?_
      exact ⟨_, rfl, rfl, rfl, _, P1, Q1, D, S, g, rfl, H1, Or.inl rfl⟩
    · have hN : N ≤ 11 := (by have := mt zcmp_ge.mpr hc23; rw [zI_c (by decide) (by decide)] at this; omega)
      refine zh zJ_229 (i := (1, 1, 0, 0)) rfl rfl (k' := 10) (lo' := [(0, .ref a), (1, .int (Int32.ofInt (0))), (2, .int nn)]) (st' := [.int (Int32.ofInt (0))]) (h' := h21) rfl ?_
      refine zh_if zJ_229 (a := 15) (b := 0) (z := 0) rfl (fun hc24 => ?_) (fun hc24 => ?_)
      · refine zh zJ_229 (i := (2, 0, 0, 0)) rfl rfl (k' := 16) (lo' := [(0, .ref a), (1, .int (Int32.ofInt (0))), (2, .int nn)]) (st' := [.ref a]) (h' := h21) rfl ?_
        refine zh zJ_229 (i := (1, 2, 0, 0)) rfl rfl (k' := 17) (lo' := [(0, .ref a), (1, .int (Int32.ofInt (0))), (2, .int nn)]) (st' := [.int nn, .ref a]) (h' := h21) rfl ?_
        refine zcl (xs := [.int nn]) (rest := []) H1 zJ_229 rfl (k' := 18) rfl (by omega) rfl rfl (Nat.le_of_ble_eq_true rfl) (M' := z_m228) rfl (Nat.le_of_ble_eq_true rfl) (zS_228 (by omega) en hN (by omega) H1) (fun v h25 q => ?_)
        obtain ⟨c5, P5, Q5, D5, S5, g5, rfl, H5, h5⟩ := q
        show z_ok sx d 229 18 [(0, .ref a), (1, .int (Int32.ofInt (0))), (2, .int nn)] [.int c5] h25 _
        refine zh_if zJ_229 (a := 21) (b := 0) (z := 0) rfl (fun hc26 => ?_) (fun hc26 => ?_)
        · refine zh zJ_229 (i := (0, 0, 0, 0)) rfl rfl (k' := 22) (lo' := [(0, .ref a), (1, .int (Int32.ofInt (0))), (2, .int nn)]) (st' := [.int (Int32.ofInt (0))]) (h' := h25) rfl ?_
          refine zh_iret zJ_229 (a := 0) (b := 0) (z := 0) rfl (Or.inr ⟨rfl, Or.inl rfl⟩) ?_
          exact ⟨_, rfl, rfl, rfl, _, P5, Q5, D5, S5, g5, rfl, H5, Or.inl rfl⟩
        · have h6 := (h5.resolve_left (fun e => hc26 (by rw [e]; rfl))).2
          refine zh zJ_229 (i := (0, 0, 0, 1)) rfl rfl (k' := 20) (lo' := [(0, .ref a), (1, .int (Int32.ofInt (0))), (2, .int nn)]) (st' := [.int (Int32.ofInt (1))]) (h' := h25) rfl ?_
          refine zh zJ_229 (i := (30, 22, 0, 0)) rfl rfl (k' := 22) (lo' := [(0, .ref a), (1, .int (Int32.ofInt (0))), (2, .int nn)]) (st' := [.int (Int32.ofInt (1))]) (h' := h25) rfl ?_
          refine zh_iret zJ_229 (a := 0) (b := 0) (z := 0) rfl (Or.inr ⟨rfl, Or.inr rfl⟩) ?_
          exact ⟨_, rfl, rfl, rfl, _, P5, Q5, D5, S5, g5, rfl, H5, Or.inr ⟨rfl, h6⟩⟩
      · exact absurd (show z_cmp 0 (Int32.ofInt (0)) 0 = true from rfl) hc24
  · exact absurd (show z_cmp 0 (Int32.ofInt (0)) 0 = true from rfl) hc22
theorem zJ_230 : zJ3 230 z_m230 z_c230 z_h230 := ⟨rfl, rfl, rfl⟩
noncomputable def zRA (ty : List Nat) (h0 : zH) (a w b E : Nat) : Option Value → zH → Prop := fun r h' => ∃ (c : Int32) (P' Q' D' S' : Nat) (g' : Nat → Int32), r = some (.int c) ∧ zPS ty h0 a w b E P' Q' D' S' g' h' ∧ (c.toInt = -1 ∨ ∃ N : Nat, N ≤ 12 ∧ c.toInt = (N : Int) ∧ ∀ l, l < N → ∃ s e, zLd g' l s e)
theorem zLne.keep {N S S' l s e : Nat} {g g' : Nat → Int32} (h : zLne N S g S' g') (hl : l < N) (hN : N ≤ 11) (he : e ≤ S) (H : zLd g l s e) : zLd g' l s e := by
  obtain ⟨h1, h2, h3, t', h4⟩ := H
  refine ⟨by rw [h.2 _ (Or.inl (by omega))]; exact h1, by rw [h.2 _ (Or.inl (by omega))]; exact h2, h3, t', zPs_cg (fun k k1 k2 => h.2 k (Or.inr ⟨k1, by omega⟩)) h4⟩
set_option maxRecDepth 100000 in
theorem zLp_230 {sx : zX} {ty : List Nat} {h0 : zH} {a w b E : Nat} {d : Nat} (hd : 35 ≤ d) : ∀ (n N P Q D S : Nat) (g : Nat → Int32) (h : zH) (nn : Int32), 12 < N + n → nn.toInt = (N : Int) → S ≤ P → zPS ty h0 a w b E P Q D S g h → (∀ l, l < N → ∃ s e, e ≤ S ∧ zLd g l s e) → z_ok sx d 230 16 [(2, .int nn), (0, .ref a), (1, .int (Int32.ofInt (0)))] [] h (zRq (zRA ty h0 a w b E))
  | 0, N, P, Q, D, S, g, h, nn, hn, en, hP, H, hlines => by
    obtain ⟨bE, bP, bQ, bD, bS⟩ := H.bd
    refine zh zJ_230 (i := (2, 0, 0, 0)) rfl rfl (k' := 17) (lo' := [(2, .int nn), (0, .ref a), (1, .int (Int32.ofInt (0)))]) (st' := [.ref a]) (h' := h) rfl ?_
    refine zh zJ_230 (i := (1, 1, 0, 0)) rfl rfl (k' := 18) (lo' := [(2, .int nn), (0, .ref a), (1, .int (Int32.ofInt (0)))]) (st' := [.int (Int32.ofInt (0)), .ref a]) (h' := h) rfl ?_
    refine zh zJ_230 (i := (1, 2, 0, 0)) rfl rfl (k' := 19) (lo' := [(2, .int nn), (0, .ref a), (1, .int (Int32.ofInt (0)))]) (st' := [.int nn, .int (Int32.ofInt (0)), .ref a]) (h' := h) rfl ?_
    refine zcl (xs := [.int nn, .int (Int32.ofInt (0))]) (rest := []) H zJ_230 rfl (k' := 20) rfl (by omega) rfl rfl (Nat.le_of_ble_eq_true rfl) (M' := z_m229) rfl (Nat.le_of_ble_eq_true rfl) (zS_229 (by omega) en hP H) (fun v h37 q => ?_)
    obtain ⟨c5, P5, Q5, D5, S5, g5, rfl, H5, h5⟩ := q
    show z_ok sx d 230 20 [(2, .int nn), (0, .ref a), (1, .int (Int32.ofInt (0)))] [.int c5] h37 _
    refine zh_if zJ_230 (a := 23) (b := 1) (z := 0) rfl (fun hc38 => ?_) (fun hc38 => ?_)
    · exact absurd ((h5.resolve_left (fun e => zcmp_ne.mp hc38 (by rw [e]))).2.1) (by omega)
    · refine zh zJ_230 (i := (0, 0, 0, -1)) rfl rfl (k' := 22) (lo' := [(2, .int nn), (0, .ref a), (1, .int (Int32.ofInt (0)))]) (st' := [.int (Int32.ofInt (-1))]) (h' := h37) rfl ?_
      refine zh_iret zJ_230 (a := 0) (b := 0) (z := 0) rfl (Or.inl rfl) ?_
      exact ⟨_, rfl, rfl, rfl, _, P5, Q5, D5, S5, g5, rfl, H5, Or.inl (by decide)⟩
  | n + 1, N, P, Q, D, S, g, h, nn, hn, en, hP, H, hlines => by
    obtain ⟨bE, bP, bQ, bD, bS⟩ := H.bd
    refine zh zJ_230 (i := (2, 0, 0, 0)) rfl rfl (k' := 17) (lo' := [(2, .int nn), (0, .ref a), (1, .int (Int32.ofInt (0)))]) (st' := [.ref a]) (h' := h) rfl ?_
    refine zh zJ_230 (i := (1, 1, 0, 0)) rfl rfl (k' := 18) (lo' := [(2, .int nn), (0, .ref a), (1, .int (Int32.ofInt (0)))]) (st' := [.int (Int32.ofInt (0)), .ref a]) (h' := h) rfl ?_
    refine zh zJ_230 (i := (1, 2, 0, 0)) rfl rfl (k' := 19) (lo' := [(2, .int nn), (0, .ref a), (1, .int (Int32.ofInt (0)))]) (st' := [.int nn, .int (Int32.ofInt (0)), .ref a]) (h' := h) rfl ?_
    refine zcl (xs := [.int nn, .int (Int32.ofInt (0))]) (rest := []) H zJ_230 rfl (k' := 20) rfl (by omega) rfl rfl (Nat.le_of_ble_eq_true rfl) (M' := z_m229) rfl (Nat.le_of_ble_eq_true rfl) (zS_229 (by omega) en hP H) (fun v h27 q => ?_)
    obtain ⟨c5, P5, Q5, D5, S5, g5, rfl, H5, h5⟩ := q
    show z_ok sx d 230 20 [(2, .int nn), (0, .ref a), (1, .int (Int32.ofInt (0)))] [.int c5] h27 _
    refine zh_if zJ_230 (a := 23) (b := 1) (z := 0) rfl (fun hc28 => ?_) (fun hc28 => ?_)
    · obtain ⟨-, hN, h6, h7⟩ := (h5.resolve_left (fun e => zcmp_ne.mp hc28 (by rw [e])))
      have hlk : ∀ l, l < N + 1 → ∃ s e, e ≤ S5 ∧ zLd g5 l s e := fun l hl => by
        have hss := h7.1.2.2.1
        by_cases hl2 : l = N
        · subst hl2; exact ⟨S, S5, Nat.le_refl _, h7.1⟩
        · obtain ⟨s, e, q1, q2⟩ := hlines l (by omega)
          exact ⟨s, e, by omega, h7.keep (by omega) hN q1 q2⟩
      have eN : (nn + Int32.ofInt (1)).toInt = ((N + 1 : Nat) : Int) := (by rw [zI_add en (zI_c (by decide) (by decide)) (by omega) (by omega)]; omega)
      refine zh zJ_230 (i := (2, 0, 0, 0)) rfl rfl (k' := 24) (lo' := [(2, .int nn), (0, .ref a), (1, .int (Int32.ofInt (0)))]) (st' := [.ref a]) (h' := h27) rfl ?_
      refine zcl (xs := []) (rest := []) H5 zJ_230 rfl (k' := 25) rfl (by omega) rfl rfl (Nat.le_of_ble_eq_true rfl) (M' := z_m202) rfl (Nat.le_of_ble_eq_true rfl) (zS_202 (by omega) H5) (fun v h29 q => ?_)
      obtain ⟨rfl, P6, h8, H6⟩ := q
      show z_ok sx d 230 25 [(2, .int nn), (0, .ref a), (1, .int (Int32.ofInt (0)))] [] h29 _
      have b6 := H6.bd
      refine zh zJ_230 (i := (2, 0, 0, 0)) rfl rfl (k' := 26) (lo' := [(2, .int nn), (0, .ref a), (1, .int (Int32.ofInt (0)))]) (st' := [.ref a]) (h' := h29) rfl ?_
      refine zg10 H6 zJ_230 rfl (k' := 27) rfl (fun x30 ex30 => ?_)
      refine zh zJ_230 (i := (2, 0, 0, 0)) rfl rfl (k' := 28) (lo' := [(2, .int nn), (0, .ref a), (1, .int (Int32.ofInt (0)))]) (st' := [.ref a, .int x30]) (h' := h29) rfl ?_
      refine zg11 H6 zJ_230 rfl (k' := 29) rfl (fun x31 ex31 => ?_)
      refine zh_icmp zJ_230 (a := 34) (b := 1) (z := 0) rfl (fun hc32 => ?_) (fun hc32 => ?_)
      · refine zh zJ_230 (i := (2, 0, 0, 0)) rfl rfl (k' := 35) (lo' := [(2, .int nn), (0, .ref a), (1, .int (Int32.ofInt (0)))]) (st' := [.ref a]) (h' := h29) rfl ?_
        refine zh zJ_230 (i := (0, 0, 0, 59)) rfl rfl (k' := 36) (lo' := [(2, .int nn), (0, .ref a), (1, .int (Int32.ofInt (0)))]) (st' := [.int (Int32.ofInt (59)), .ref a]) (h' := h29) rfl ?_
        refine zh zJ_230 (i := (0, 0, 0, 59)) rfl rfl (k' := 37) (lo' := [(2, .int nn), (0, .ref a), (1, .int (Int32.ofInt (0)))]) (st' := [.int (Int32.ofInt (59)), .int (Int32.ofInt (59)), .ref a]) (h' := h29) rfl ?_
        refine zcl (xs := [.int (Int32.ofInt (59)), .int (Int32.ofInt (59))]) (rest := []) H6 zJ_230 rfl (k' := 38) rfl (by omega) rfl rfl (Nat.le_of_ble_eq_true rfl) (M' := z_m201) rfl (Nat.le_of_ble_eq_true rfl) (zS_201 H6 _ _) (fun v h33 q => ?_)
        obtain ⟨rfl, c, rfl, hc⟩ := q
        show z_ok sx d 230 38 [(2, .int nn), (0, .ref a), (1, .int (Int32.ofInt (0)))] [.int c] h33 _
        refine zh_if zJ_230 (a := 41) (b := 1) (z := 0) rfl (fun hc34 => ?_) (fun hc34 => ?_)
        · have hlt : P6 < E := (hc.resolve_left (fun e => zcmp_ne.mp hc34 (by rw [e]))).2
          refine zh zJ_230 (i := (2, 0, 0, 0)) rfl rfl (k' := 42) (lo' := [(2, .int nn), (0, .ref a), (1, .int (Int32.ofInt (0)))]) (st' := [.ref a]) (h' := h33) rfl ?_
          refine zh zJ_230 (i := (27, 0, 0, 0)) rfl rfl (k' := 43) (lo' := [(2, .int nn), (0, .ref a), (1, .int (Int32.ofInt (0)))]) (st' := [.ref a, .ref a]) (h' := h33) rfl ?_
          refine zg10 H6 zJ_230 rfl (k' := 44) rfl (fun x35 ex35 => ?_)
          refine zh zJ_230 (i := (0, 0, 0, 1)) rfl rfl (k' := 45) (lo' := [(2, .int nn), (0, .ref a), (1, .int (Int32.ofInt (0)))]) (st' := [.int (Int32.ofInt (1)), .int x35, .ref a]) (h' := h33) rfl ?_
          refine zh zJ_230 (i := (8, 0, 0, 0)) rfl rfl (k' := 46) (lo' := [(2, .int nn), (0, .ref a), (1, .int (Int32.ofInt (0)))]) (st' := [.int (x35 + (Int32.ofInt (1))), .ref a]) (h' := h33) rfl ?_
          refine zp10 H6 zJ_230 rfl (k' := 47) rfl (P6 + 1) (by rw [zI_add ex35 (zI_c (by decide) (by decide)) (by omega) (by omega)]; omega) (by omega) (fun h36 Hh36 => ?_)
          refine zh zJ_230 (i := (7, 2, 0, 1)) rfl rfl (k' := 48) (lo' := [(2, .int (nn + Int32.ofInt (1))), (0, .ref a), (1, .int (Int32.ofInt (0)))]) (st' := []) (h' := h36) rfl ?_
          refine zh zJ_230 (i := (30, 16, 0, 0)) rfl rfl (k' := 16) (lo' := [(2, .int (nn + Int32.ofInt (1))), (0, .ref a), (1, .int (Int32.ofInt (0)))]) (st' := []) (h' := h36) rfl ?_
          exact zLp_230 hd n (N + 1) (P6 + 1) P6 D5 S5 g5 _ _ (by omega) eN (by omega) Hh36 (fun l hl => hlk l hl)
        · refine zh zJ_230 (i := (0, 0, 0, -1)) rfl rfl (k' := 40) (lo' := [(2, .int nn), (0, .ref a), (1, .int (Int32.ofInt (0)))]) (st' := [.int (Int32.ofInt (-1))]) (h' := h33) rfl ?_
          refine zh_iret zJ_230 (a := 0) (b := 0) (z := 0) rfl (Or.inl rfl) ?_
          exact ⟨_, rfl, rfl, rfl, _, P6, P6, D5, S5, g5, rfl, H6, Or.inl (by decide)⟩
      · refine zh zJ_230 (i := (1, 2, 0, 0)) rfl rfl (k' := 31) (lo' := [(2, .int nn), (0, .ref a), (1, .int (Int32.ofInt (0)))]) (st' := [.int nn]) (h' := h29) rfl ?_
        refine zh zJ_230 (i := (0, 0, 0, 1)) rfl rfl (k' := 32) (lo' := [(2, .int nn), (0, .ref a), (1, .int (Int32.ofInt (0)))]) (st' := [.int (Int32.ofInt (1)), .int nn]) (h' := h29) rfl ?_
        refine zh zJ_230 (i := (8, 0, 0, 0)) rfl rfl (k' := 33) (lo' := [(2, .int nn), (0, .ref a), (1, .int (Int32.ofInt (0)))]) (st' := [.int (nn + (Int32.ofInt (1)))]) (h' := h29) rfl ?_
        refine zh_iret zJ_230 (a := 0) (b := 0) (z := 0) rfl (Or.inl rfl) ?_
        exact ⟨_, rfl, rfl, rfl, _, P6, P6, D5, S5, g5, rfl, H6, Or.inr ⟨N + 1, by omega, eN, fun l hl => (by obtain ⟨s, e, -, q⟩ := hlk l hl; exact ⟨s, e, q⟩)⟩⟩
    · refine zh zJ_230 (i := (0, 0, 0, -1)) rfl rfl (k' := 22) (lo' := [(2, .int nn), (0, .ref a), (1, .int (Int32.ofInt (0)))]) (st' := [.int (Int32.ofInt (-1))]) (h' := h27) rfl ?_
      refine zh_iret zJ_230 (a := 0) (b := 0) (z := 0) rfl (Or.inl rfl) ?_
      exact ⟨_, rfl, rfl, rfl, _, P5, Q5, D5, S5, g5, rfl, H5, Or.inl (by decide)⟩
set_option maxRecDepth 100000 in
theorem zS_230 {sx : zX} {ty : List Nat} {h0 : zH} {a w b E : Nat} {P Q D S d : Nat} {g : Nat → Int32} {h : zH} (hd : 35 ≤ d) (H : zPS ty h0 a w b E P Q D S g h) : z_ok sx d 230 2 [(0, .ref a), (1, .int (Int32.ofInt (0)))] [] h (zRq (zRA ty h0 a w b E)) := by
  refine zh zJ_230 (i := (2, 0, 0, 0)) rfl rfl (k' := 3) (lo' := [(0, .ref a), (1, .int (Int32.ofInt (0)))]) (st' := [.ref a]) (h' := h) rfl ?_
  refine zh zJ_230 (i := (0, 0, 0, 0)) rfl rfl (k' := 4) (lo' := [(0, .ref a), (1, .int (Int32.ofInt (0)))]) (st' := [.int (Int32.ofInt (0)), .ref a]) (h' := h) rfl ?_
  refine zp16 H zJ_230 rfl (k' := 5) rfl (0) rfl (by omega) (fun h39 Hh39 => ?_)
  refine zh zJ_230 (i := (2, 0, 0, 0)) rfl rfl (k' := 6) (lo' := [(0, .ref a), (1, .int (Int32.ofInt (0)))]) (st' := [.ref a]) (h' := h39) rfl ?_
  refine zcl (xs := []) (rest := []) Hh39 zJ_230 rfl (k' := 7) rfl (by omega) rfl rfl (Nat.le_of_ble_eq_true rfl) (M' := z_m202) rfl (Nat.le_of_ble_eq_true rfl) (zS_202 (by omega) Hh39) (fun v h40 q => ?_)
  obtain ⟨rfl, P6, h8, H6⟩ := q
  show z_ok sx d 230 7 [(0, .ref a), (1, .int (Int32.ofInt (0)))] [] h40 _
  refine zh zJ_230 (i := (2, 0, 0, 0)) rfl rfl (k' := 8) (lo' := [(0, .ref a), (1, .int (Int32.ofInt (0)))]) (st' := [.ref a]) (h' := h40) rfl ?_
  refine zg10 H6 zJ_230 rfl (k' := 9) rfl (fun x41 ex41 => ?_)
  refine zh zJ_230 (i := (2, 0, 0, 0)) rfl rfl (k' := 10) (lo' := [(0, .ref a), (1, .int (Int32.ofInt (0)))]) (st' := [.ref a, .int x41]) (h' := h40) rfl ?_
  refine zg11 H6 zJ_230 rfl (k' := 11) rfl (fun x42 ex42 => ?_)
  refine zh_icmp zJ_230 (a := 14) (b := 1) (z := 0) rfl (fun hc43 => ?_) (fun hc43 => ?_)
  · refine zh zJ_230 (i := (0, 0, 0, 0)) rfl rfl (k' := 15) (lo' := [(0, .ref a), (1, .int (Int32.ofInt (0)))]) (st' := [.int (Int32.ofInt (0))]) (h' := h40) rfl ?_
    refine zh zJ_230 (i := (4, 2, 0, 0)) rfl rfl (k' := 16) (lo' := [(2, .int (Int32.ofInt (0))), (0, .ref a), (1, .int (Int32.ofInt (0)))]) (st' := []) (h' := h40) rfl ?_
    exact zLp_230 hd 13 0 P6 P6 D 0 g _ _ (by omega) rfl (by omega) H6 (fun l hl => absurd hl (Nat.not_lt_zero _))
  · refine zh zJ_230 (i := (0, 0, 0, 0)) rfl rfl (k' := 13) (lo' := [(0, .ref a), (1, .int (Int32.ofInt (0)))]) (st' := [.int (Int32.ofInt (0))]) (h' := h40) rfl ?_
    refine zh_iret zJ_230 (a := 0) (b := 0) (z := 0) rfl (Or.inl rfl) ?_
    exact ⟨_, rfl, rfl, rfl, _, P6, P6, D, 0, g, rfl, H6, Or.inr ⟨0, by omega, by decide, fun l hl => absurd hl (Nat.not_lt_zero _)⟩⟩
end
section
/-! the reference's law; printed with wip/gen/gen_rd5.py -/
/-- a typed write into a field -/
theorem zputT {sx : zX} {d j k k' : Nat} {lo : zL} {st : List Value} {h : zH} {Ψ : zO → zH → Nat → Nat → Prop} {M : zMi} {cs : List zI} {hs : List zHd} {z : Int} {ty : List Nat} {a t b c : Nat} {fs : List Value} {v : Value} {V : zA} (J : zJ3 j M cs hs) (hi : cs[k]? = some (38, c, b, z)) (hk : k + 1 = k') (T : zTY z_tt ty h) (E : zE1 ty h) (ha : ty[a]? = some t) (he : h[a]? = some (.inr (c, fs))) (hb : b < fs.length) (g : zG ty V v) (hz : zst (z_tt t).2.2.2 (b : Int) (b : Int) V = true) (ms : List zMod) (hm : zcv ms t (b : Int) (b : Int) = true) (hno : zno ms = true) (hf : z_fit z v = true) (kk : ∀ h', zTY z_tt ty h' → zE1 ty h' → zFm ms ty h h' → h'[a]? = some (.inr (c, fs.set b v)) → (∀ q, q ≠ a → h'[q]? = h[q]?) → z_ok sx d j k' lo st h' Ψ) : z_ok sx d j k lo (v :: .ref a :: st) h Ψ := by
  obtain ⟨T', F'⟩ := zwf' (ms := ms) (b := b) T ha he hb g hz hm
  exact zh_put J hi hk he hb hf (kk _ T' (zE1_stable hno ty h _ T T' (T.len T') F' E) F' (zset_eq he) (fun q hq => zset_ne (Ne.symm hq)))
noncomputable def zUm : List zMod := [(20, 0, 0), (20, 9, 11)]
noncomputable def zNi (h : zH) (a : Nat) : Prop := ∃ fs : List Value, h[a]? = some (.inr (9, fs)) ∧ fs[9]? = some (.int 0)
theorem zNi.keep {ms : List zMod} {ty : List Nat} {h h' : zH} {a : Nat} (T' : zTY z_tt ty h') (ha : ty[a]? = some 20) (F : zFm ms ty h h') (hm : ¬ zIn ms 20 9) (H : zNi h a) : zNi h' a := by
  obtain ⟨fs, he, h9⟩ := H
  obtain ⟨fs', he', hl'⟩ := zcell0 (c := 9) (n := 23) T' ha rfl rfl rfl
  have := F.2 a 20 _ _ ha he he' 9 hm
  exact ⟨fs', he', this.trans h9⟩
theorem zJ_210 : zJ3 210 z_m210 z_c210 z_h210 := ⟨rfl, rfl, rfl⟩
set_option maxRecDepth 100000 in
theorem zS_210 {sx : zX} {ty : List Nat} {a d : Nat} {h : zH} (T : zTY z_tt ty h) (E : zE1 ty h) (ha : ty[a]? = some 20) : z_ok sx d 210 0 (lv_args 0 [.ref a]) [] h (zRq (fun v h' => v = none ∧ zTY z_tt ty h' ∧ zE1 ty h' ∧ zFm zUm ty h h' ∧ zNi h' a)) := by
  show z_ok sx d 210 0 [(0, .ref a)] [] h _
  obtain ⟨fs, he, hl⟩ := zcell0 (c := 9) (n := 23) T ha rfl rfl rfl
  obtain ⟨x9, g9, l9, u9⟩ := zfd0 (b := 9) (lo := 0) (hi := 400) T ha he (by omega) (by decide +kernel)
  refine zh zJ_210 (i := (2, 0, 0, 0)) rfl rfl (k' := 1) (lo' := [(0, .ref a)]) (st' := [.ref a]) (h' := h) rfl ?_
  refine zh zJ_210 (i := (0, 0, 0, 0)) rfl rfl (k' := 2) (lo' := [(0, .ref a)]) (st' := [.int (Int32.ofInt (0)), .ref a]) (h' := h) rfl ?_
  refine zputT zJ_210 (k' := 3) rfl rfl T E ha he (by omega) (zK0 (by decide) (by decide)) (by decide +kernel) zUm (by decide +kernel) (by decide +kernel) rfl (fun h1 T1 E1 F1 he1 hq1 => ?_)
  refine zh zJ_210 (i := (2, 0, 0, 0)) rfl rfl (k' := 4) (lo' := [(0, .ref a)]) (st' := [.ref a]) (h' := h1) rfl ?_
  refine zh zJ_210 (i := (2, 0, 0, 0)) rfl rfl (k' := 5) (lo' := [(0, .ref a)]) (st' := [.ref a, .ref a]) (h' := h1) rfl ?_
  refine zh_get zJ_210 (b := 9) (c := 9) (z := 0) rfl (k' := 6) rfl he1 ((List.getElem?_set_ne (by decide)).trans g9) ?_
  refine zputT zJ_210 (k' := 7) rfl rfl T1 E1 ha he1 (by simp only [List.length_set]; omega) (show zG ty (0, 0, 400) (.int x9) from ⟨x9, rfl, l9, u9⟩) (by decide +kernel) zUm (by decide +kernel) (by decide +kernel) rfl (fun h2 T2 E2 F2 he2 hq2 => ?_)
  refine zh zJ_210 (i := (2, 0, 0, 0)) rfl rfl (k' := 8) (lo' := [(0, .ref a)]) (st' := [.ref a]) (h' := h2) rfl ?_
  refine zh zJ_210 (i := (0, 0, 0, 0)) rfl rfl (k' := 9) (lo' := [(0, .ref a)]) (st' := [.int (Int32.ofInt (0)), .ref a]) (h' := h2) rfl ?_
  refine zputT zJ_210 (k' := 10) rfl rfl T2 E2 ha he2 (by simp only [List.length_set]; omega) (zK0 (by decide) (by decide)) (by decide +kernel) zUm (by decide +kernel) (by decide +kernel) rfl (fun h3 T3 E3 F3 he3 hq3 => ?_)
  refine zh zJ_210 (i := (2, 0, 0, 0)) rfl rfl (k' := 11) (lo' := [(0, .ref a)]) (st' := [.ref a]) (h' := h3) rfl ?_
  refine zh zJ_210 (i := (0, 0, 0, 0)) rfl rfl (k' := 12) (lo' := [(0, .ref a)]) (st' := [.int (Int32.ofInt (0)), .ref a]) (h' := h3) rfl ?_
  refine zputT zJ_210 (k' := 13) rfl rfl T3 E3 ha he3 (by simp only [List.length_set]; omega) (zK0 (by decide) (by decide)) (by decide +kernel) zUm (by decide +kernel) (by decide +kernel) rfl (fun h4 T4 E4 F4 he4 hq4 => ?_)
  refine zh_vret zJ_210 (a := 0) (b := 0) (z := 0) rfl ?_
  exact ⟨_, rfl, rfl, rfl, rfl, T4, E4, ((F1.tr zExt.rf F2).tr zExt.rf F3).tr zExt.rf F4, _, he4, (List.getElem?_set_ne (by decide)).trans (List.getElem?_set_self (by simp only [List.length_set]; omega))⟩
theorem zPS_mk {ty : List Nat} {a : Nat} {h : zH} (T : zTY z_tt ty h) (E1 : zE1 ty h) (ha : ty[a]? = some 20) : ∃ (w b E P Q D S : Nat) (g : Nat → Int32), zPS ty h a w b E P Q D S g h := by
  obtain ⟨fs, he, hl⟩ := zcell0 (c := 9) (n := 23) T ha rfl rfl rfl
  obtain ⟨w, f1, hw⟩ := zfd2 (b := 1) (u := 21) T ha he (by omega) (by decide +kernel)
  obtain ⟨b, f8, hb⟩ := zfd2 (b := 8) (u := 26) T ha he (by omega) (by decide +kernel)
  obtain ⟨g, hg⟩ := zcell1 (n := 2086) T hw rfl rfl
  obtain ⟨x11, g11, l11, u11⟩ := zfd0 (b := 11) (lo := 0) (hi := 400) T ha he (by omega) (by decide +kernel)
  obtain ⟨x10, g10, l10, u10⟩ := zfd0 (b := 10) (lo := 0) (hi := 400) T ha he (by omega) (by decide +kernel)
  obtain ⟨x12, g12, l12, u12⟩ := zfd0 (b := 12) (lo := 0) (hi := 400) T ha he (by omega) (by decide +kernel)
  obtain ⟨x13, g13, l13, u13⟩ := zfd0 (b := 13) (lo := 0) (hi := 6) T ha he (by omega) (by decide +kernel)
  obtain ⟨x16, g16, l16, u16⟩ := zfd0 (b := 16) (lo := 0) (hi := 400) T ha he (by omega) (by decide +kernel)
  exact ⟨w, b, x11.toInt.toNat, x10.toInt.toNat, x12.toInt.toNat, x13.toInt.toNat, x16.toInt.toNat, g, T, E1, zFm.rf, ha, hw, hb, hg, fs, he, hl, f1, f8, ⟨x11, g11, by omega⟩, ⟨x10, g10, by omega⟩, ⟨x12, g12, by omega⟩, ⟨x13, g13, by omega⟩, ⟨x16, g16, by omega⟩⟩
set_option maxRecDepth 100000 in
theorem zNin (ms : List zMod) (t i : Nat) (h : ms.all (fun m => decide (m.1 ≠ t) || (decide ((i : Int) < m.2.1) || decide (m.2.2 < (i : Int)))) = true) : ¬ zIn ms t i := by
  rintro ⟨m, hm, m1, m2, m3⟩
  have := List.all_eq_true.mp h m hm
  rw [Bool.or_eq_true, Bool.or_eq_true, decide_eq_true_eq, decide_eq_true_eq, decide_eq_true_eq] at this
  omega
set_option maxRecDepth 100000 in
theorem zS_230a {sx : zX} {ty : List Nat} {a d : Nat} {h : zH} (hd : 35 ≤ d) (T : zTY z_tt ty h) (E : zE1 ty h) (ha : ty[a]? = some 20) : z_ok sx d 230 0 (lv_args 0 [.ref a, .int (Int32.ofInt (0))]) [] h (zRq (fun v h' => ∃ (c : Int32) (h1 : zH) (w b En P Q D S : Nat) (g : Nat → Int32), v = some (.int c) ∧ zFm zUm ty h h1 ∧ zPS ty h1 a w b En P Q D S g h' ∧ zNi h' a ∧ (c.toInt = -1 ∨ ∃ N : Nat, N ≤ 12 ∧ c.toInt = (N : Int) ∧ ∀ l, l < N → ∃ s e, zLd g l s e))) := by
  show z_ok sx d 230 0 [(0, .ref a), (1, .int (Int32.ofInt (0)))] [] h _
  refine zh zJ_230 (i := (2, 0, 0, 0)) rfl rfl (k' := 1) (lo' := [(0, .ref a), (1, .int (Int32.ofInt (0)))]) (st' := [.ref a]) (h' := h) rfl ?_
  obtain ⟨fs, he, hl⟩ := zcell0 (c := 9) (n := 23) T ha rfl rfl rfl
  refine zh_run (rest := []) (as := [.ref a]) zJ_230 (i := (54, 210, 0, 9)) rfl (by decide) (zcal54 (xs := []) (by omega) rfl rfl he rfl (Nat.le_of_ble_eq_true rfl) (M' := z_m210) rfl (Nat.le_of_ble_eq_true rfl)) (zS_210 T E ha) (fun o h1 x y q => ?_)
  obtain ⟨v, rfl, rfl, rfl, rfl, T1, E1, F1, N1⟩ := q
  refine ⟨_, rfl, rfl, rfl, ?_⟩
  obtain ⟨w, b, En, P, Q, D, S, g, H⟩ := zPS_mk T1 E1 ha
  refine z_ok.imp (zS_230 (by omega) H) (fun o h2 x y q => ?_)
  obtain ⟨v, rfl, rfl, rfl, c, P', Q', D', S', g', rfl, H', hc⟩ := q
  exact ⟨_, rfl, rfl, rfl, c, h1, w, b, En, P', Q', D', S', g', rfl, F1, H', N1.keep H'.1 ha H'.2.2.1 (zNin _ _ _ (by decide +kernel)), hc⟩
theorem zJ_176 : zJ3 176 z_m176 z_c176 z_h176 := ⟨rfl, rfl, rfl⟩
set_option maxRecDepth 100000 in
theorem zS_176a {sx : zX} {a d : Nat} {h : zH} (k : Int32) : z_ok sx d 176 0 (lv_args 0 [.ref a, .int (Int32.ofInt (0)), .int k]) [] h (zRq (fun v h' => v = some (.int (Int32.ofInt (0))) ∧ h' = h)) := by
  show z_ok sx d 176 0 [(0, .ref a), (1, .int (Int32.ofInt (0))), (2, .int k)] [] h _
  refine zh zJ_176 (i := (1, 1, 0, 0)) rfl rfl (k' := 1) (lo' := [(0, .ref a), (1, .int (Int32.ofInt (0))), (2, .int k)]) (st' := [.int (Int32.ofInt (0))]) (h' := h) rfl ?_
  refine zh_if zJ_176 (a := 5) (b := 0) (z := 0) rfl (fun hc1 => ?_) (fun hc1 => ?_)
  · refine zh zJ_176 (i := (1, 1, 0, 0)) rfl rfl (k' := 6) (lo' := [(0, .ref a), (1, .int (Int32.ofInt (0))), (2, .int k)]) (st' := [.int (Int32.ofInt (0))]) (h' := h) rfl ?_
    refine zh_iret zJ_176 (a := 0) (b := 0) (z := 0) rfl (Or.inr ⟨rfl, Or.inl rfl⟩) ?_
    exact ⟨_, rfl, rfl, rfl, rfl, rfl⟩
  · exact absurd (show z_cmp 0 (Int32.ofInt (0)) 0 = true from rfl) hc1
set_option maxRecDepth 100000 in
theorem zS_176b {sx : zX} {ty : List Nat} {a d : Nat} {h : zH} (k : Int32) (T : zTY z_tt ty h) (E : zE1 ty h) (ha : ty[a]? = some 20) : z_ok sx d 176 0 (lv_args 0 [.ref a, .int (Int32.ofInt (1)), .int k]) [] h (zRq (fun v h' => v = some (.int (Int32.ofInt (1))) ∧ zTY z_tt ty h' ∧ zE1 ty h' ∧ zFm [(20, 0, 0)] ty h h')) := by
  show z_ok sx d 176 0 [(0, .ref a), (1, .int (Int32.ofInt (1))), (2, .int k)] [] h _
  obtain ⟨fs, he, hl⟩ := zcell0 (c := 9) (n := 23) T ha rfl rfl rfl
  refine zh zJ_176 (i := (1, 1, 0, 0)) rfl rfl (k' := 1) (lo' := [(0, .ref a), (1, .int (Int32.ofInt (1))), (2, .int k)]) (st' := [.int (Int32.ofInt (1))]) (h' := h) rfl ?_
  refine zh_if zJ_176 (a := 5) (b := 0) (z := 0) rfl (fun hc2 => ?_) (fun hc2 => ?_)
  · exact absurd hc2 (by decide)
  · refine zh zJ_176 (i := (2, 0, 0, 0)) rfl rfl (k' := 3) (lo' := [(0, .ref a), (1, .int (Int32.ofInt (1))), (2, .int k)]) (st' := [.ref a]) (h' := h) rfl ?_
    refine zh zJ_176 (i := (1, 2, 0, 0)) rfl rfl (k' := 4) (lo' := [(0, .ref a), (1, .int (Int32.ofInt (1))), (2, .int k)]) (st' := [.int k, .ref a]) (h' := h) rfl ?_
    refine zputT zJ_176 (k' := 5) rfl rfl T E ha he (by omega) (zFull_ok k) (by decide +kernel) [(20, 0, 0)] (by decide +kernel) (by decide +kernel) rfl (fun h1 T1 E1 F1 he1 hq1 => ?_)
    refine zh zJ_176 (i := (1, 1, 0, 0)) rfl rfl (k' := 6) (lo' := [(0, .ref a), (1, .int (Int32.ofInt (1))), (2, .int k)]) (st' := [.int (Int32.ofInt (1))]) (h' := h1) rfl ?_
    refine zh_iret zJ_176 (a := 0) (b := 0) (z := 0) rfl (Or.inr ⟨rfl, Or.inr rfl⟩) ?_
    exact ⟨_, rfl, rfl, rfl, rfl, T1, E1, F1⟩
theorem zJ_232 : zJ3 232 z_m232 z_c232 z_h232 := ⟨rfl, rfl, rfl⟩
noncomputable def zQl (ty : List Nat) (h0 : zH) (a : Nat) (gs : List Value) (w : Nat) (g : Nat → Int32) (k : Nat) (h : zH) : Prop := zTY z_tt ty h ∧ zFm [(21, 388, 1236)] ty h0 h ∧ h[a]? = some (.inr (9, gs)) ∧ ∃ f : Nat → Int32, h[w]? = some (.inl (0, (2086, .inl f))) ∧ (∀ j, j < k → f (388 + j) = g (1237 + j)) ∧ ∀ j, 1237 ≤ j → f j = g j
set_option maxRecDepth 100000 in
theorem zLp_232 {sx : zX} {d : Nat} {Ψ : zO → zH → Nat → Nat → Prop} {ty : List Nat} {h0 : zH} {a w : Nat} {gs : List Value} {g : Nat → Int32} {r : Int32} (ha : ty[a]? = some 20) (hw : ty[w]? = some 21) (hg1 : gs[1]? = some (.ref w)) (hr : 0 ≤ (g 1237).toInt ∧ (g 1237).toInt ≤ 12) (kk : ∀ (x : Int32) (h : zH), zQl ty h0 a gs w g 849 h → z_ok sx d 232 47 [(2, .int x), (1, .int r), (0, .ref a)] [] h Ψ) {h : zH} (q : zQl ty h0 a gs w g 0 h) : z_ok sx d 232 30 [(2, .int (Int32.ofInt (0))), (1, .int r), (0, .ref a)] [] h Ψ := by
  refine zloop (fun x => [(2, .int x), (1, .int r), (0, .ref a)]) 849 (zQl ty h0 a gs w g) (fun i x h hx hi q kk => ?_) (fun x h hx q => ?_) 849 0 _ h rfl rfl q
  · obtain ⟨T, F, he, f, hf, hf1, hf2⟩ := q
    refine zh zJ_232 (i := (1, 2, 0, 0)) rfl rfl (k' := 31) (lo' := [(2, .int x), (1, .int r), (0, .ref a)]) (st' := [.int x]) (h' := h) rfl ?_
    refine zh zJ_232 (i := (0, 0, 0, 849)) rfl rfl (k' := 32) (lo' := [(2, .int x), (1, .int r), (0, .ref a)]) (st' := [.int (Int32.ofInt (849)), .int x]) (h' := h) rfl ?_
    refine zh_icmp zJ_232 (a := 47) (b := 3) (z := 0) rfl (fun hc => ?_) (fun hc => ?_)
    · exact absurd (zcmp_ge.mp hc) (by rw [hx, z_of32 (by omega) (by omega)]; omega)
    have e1 : (Int32.ofInt (388) + x).toInt = ((388 + i : Nat) : Int) := (by rw [zI_add (zI_c (by decide) (by decide)) hx (by omega) (by omega)]; omega)
    have e2 : (Int32.ofInt (1237) + x).toInt = ((1237 + i : Nat) : Int) := (by rw [zI_add (zI_c (by decide) (by decide)) hx (by omega) (by omega)]; omega)
    refine zh zJ_232 (i := (2, 0, 0, 0)) rfl rfl (k' := 34) (lo' := [(2, .int x), (1, .int r), (0, .ref a)]) (st' := [.ref a]) (h' := h) rfl ?_
    refine zh_get zJ_232 (a := a) (b := 1) (c := 9) (z := 0) rfl (k' := 35) rfl he hg1 ?_
    refine zh zJ_232 (i := (0, 0, 0, 388)) rfl rfl (k' := 36) (lo' := [(2, .int x), (1, .int r), (0, .ref a)]) (st' := [.int (Int32.ofInt (388)), .ref w]) (h' := h) rfl ?_
    refine zh zJ_232 (i := (1, 2, 0, 0)) rfl rfl (k' := 37) (lo' := [(2, .int x), (1, .int r), (0, .ref a)]) (st' := [.int x, .int (Int32.ofInt (388)), .ref w]) (h' := h) rfl ?_
    refine zh zJ_232 (i := (8, 0, 0, 0)) rfl rfl (k' := 38) (lo' := [(2, .int x), (1, .int r), (0, .ref a)]) (st' := [.int ((Int32.ofInt (388)) + x), .ref w]) (h' := h) rfl ?_
    refine zh zJ_232 (i := (2, 0, 0, 0)) rfl rfl (k' := 39) (lo' := [(2, .int x), (1, .int r), (0, .ref a)]) (st' := [.ref a, .int ((Int32.ofInt (388)) + x), .ref w]) (h' := h) rfl ?_
    refine zh_get zJ_232 (a := a) (b := 1) (c := 9) (z := 0) rfl (k' := 40) rfl he hg1 ?_
    refine zh zJ_232 (i := (0, 0, 0, 1237)) rfl rfl (k' := 41) (lo' := [(2, .int x), (1, .int r), (0, .ref a)]) (st' := [.int (Int32.ofInt (1237)), .ref w, .int ((Int32.ofInt (388)) + x), .ref w]) (h' := h) rfl ?_
    refine zh zJ_232 (i := (1, 2, 0, 0)) rfl rfl (k' := 42) (lo' := [(2, .int x), (1, .int r), (0, .ref a)]) (st' := [.int x, .int (Int32.ofInt (1237)), .ref w, .int ((Int32.ofInt (388)) + x), .ref w]) (h' := h) rfl ?_
    refine zh zJ_232 (i := (8, 0, 0, 0)) rfl rfl (k' := 43) (lo' := [(2, .int x), (1, .int r), (0, .ref a)]) (st' := [.int ((Int32.ofInt (1237)) + x), .ref w, .int ((Int32.ofInt (388)) + x), .ref w]) (h' := h) rfl ?_
    refine zh_iald zJ_232 (z := 0) rfl (k' := 44) rfl hf (by omega) (by omega) ?_
    rw [znat e2, hf2 (1237 + i) (by omega)]
    refine zh_iast zJ_232 (z := 0) rfl (k' := 45) rfl hf (by omega) (by omega) ?_
    rw [znat e1]
    have hv : ∀ r ∈ (z_tt 21).2.2.2, r.1 ≤ ((388 + i : Nat) : Int) → ((388 + i : Nat) : Int) ≤ r.2.1 → zG ty r.2.2 (.int (g (1237 + i))) := by
      by_cases h0i : i = 0
      · subst h0i
        exact zst_ok (a := (0, 0, 12)) (ilo := 388) (ihi := 388) (by decide +kernel) ⟨_, rfl, hr.1, hr.2⟩ (by omega) (by omega)
      · exact zst_ok (a := zFull) (ilo := 389) (ihi := 1236) (by decide +kernel) (zFull_ok _) (by omega) (by omega)
    obtain ⟨T', F'⟩ := zwr (ms := [(21, 388, 1236)]) T hw hf (i := 388 + i) (by omega) hv (zcv_ok (lo := 388) (hi := 1236) (by decide +kernel) (by omega) (by omega))
    have hn : w ≠ a := fun e => by rw [e, ha] at hw; cases hw
    have he' := (zset_ne (h := h) (e := .inl (0, (2086, .inl (upd f (388 + i) (g (1237 + i)))))) hn).trans he
    have hw' := zset_eq (e := .inl (0, (2086, .inl (upd f (388 + i) (g (1237 + i)))))) hf
    generalize h.set w (.inl (0, (2086, .inl (upd f (388 + i) (g (1237 + i)))))) = h9 at T' F' he' hw' ⊢
    refine zh zJ_232 (i := (7, 2, 0, 1)) rfl rfl (k' := 46) (lo' := [(2, .int (x + Int32.ofInt (1))), (1, .int r), (0, .ref a)]) (st' := []) (h' := h9) rfl ?_
    refine zh zJ_232 (i := (30, 30, 0, 0)) rfl rfl (k' := 30) (lo' := [(2, .int (x + Int32.ofInt (1))), (1, .int r), (0, .ref a)]) (st' := []) (h' := h9) rfl ?_
    refine kk _ _ (zinc hx (by omega)) ⟨T', F.tr zExt.rf F', he', _, hw', fun j hj => ?_, fun j hj => by rw [zupd_ne (by omega)]; exact hf2 j hj⟩
    by_cases hji : j = i
    · subst hji; rw [zupd_at]
    · rw [zupd_ne (by omega)]; exact hf1 j (by omega)
  · refine zh zJ_232 (i := (1, 2, 0, 0)) rfl rfl (k' := 31) (lo' := [(2, .int x), (1, .int r), (0, .ref a)]) (st' := [.int x]) (h' := h) rfl ?_
    refine zh zJ_232 (i := (0, 0, 0, 849)) rfl rfl (k' := 32) (lo' := [(2, .int x), (1, .int r), (0, .ref a)]) (st' := [.int (Int32.ofInt (849)), .int x]) (h' := h) rfl ?_
    refine zh_icmp zJ_232 (a := 47) (b := 3) (z := 0) rfl (fun hc => ?_) (fun hc => ?_)
    · exact kk x h q
    · exact absurd (zcmp_ge.mpr (by rw [hx, z_of32 (by omega) (by omega)]; omega)) hc
noncomputable def zLm : List zMod := [(20, 0, 0), (20, 7, 7), (20, 9, 14), (20, 16, 16), (21, 0, 2085)]
noncomputable def zWide (ms ms' : List zMod) : Bool := ms.all (fun m => zcv ms' m.1 m.2.1 m.2.2)
theorem zFm.wide {ms ms' : List zMod} {ty : List Nat} {h h' : zH} (F : zFm ms ty h h') (hw : zWide ms ms' = true) : zFm ms' ty h h' := F.mono (fun t n hin => by
  obtain ⟨m, hm, m1, m2, m3⟩ := hin
  have := zcv_ok (List.all_eq_true.mp hw m hm) m2 m3
  rw [← m1]
  exact this)
theorem zPs_Px {g f : Nat → Int32} (hfg : ∀ i, i < 400 → f (437 + 2 * i) = g (1286 + 2 * i)) : ∀ {n i t t' : Nat}, zPs g n i t t' → zPx f n i t
  | 0, _, _, _, _ => trivial
  | n + 1, i, t, t', h => by
    obtain ⟨a1, a2⟩ := h
    refine ⟨a1, ?_⟩
    rw [hfg i a1]
    split
    · next h3 => rw [if_pos h3] at a2; exact ⟨a2.1, zPs_Px hfg a2.2⟩
    · next h3 =>
      rw [if_neg h3] at a2
      split
      · next h4 => rw [if_pos h4] at a2; exact ⟨a2.1, zPs_Px hfg a2.2⟩
      · next h4 => rw [if_neg h4] at a2; exact ⟨a2.1, zPs_Px hfg a2.2⟩
theorem zLT_of {g f : Nat → Int32} {N : Nat} (hN : N ≤ 12) (h0 : (f 388).toInt = (N : Int)) (hfg : ∀ j, 1 ≤ j → j < 849 → f (388 + j) = g (1237 + j)) (hl : ∀ l, l < N → ∃ s e, zLd g l s e) : zLT f := by
  refine ⟨by omega, fun l hl2 => ?_⟩
  obtain ⟨s, e, h1, h2, h3, t', h4⟩ := hl l (by omega)
  have a1 : f (391 + 4 * l) = g (1240 + 4 * l) := by
    have := hfg (3 + 4 * l) (by omega) (by omega)
    rw [show 388 + (3 + 4 * l) = 391 + 4 * l by omega, show 1237 + (3 + 4 * l) = 1240 + 4 * l by omega] at this
    exact this
  have a2 : f (392 + 4 * l) = g (1241 + 4 * l) := by
    have := hfg (4 + 4 * l) (by omega) (by omega)
    rw [show 388 + (4 + 4 * l) = 392 + 4 * l by omega, show 1237 + (4 + 4 * l) = 1241 + 4 * l by omega] at this
    exact this
  unfold zLi
  rw [a1, a2, h1, h2, show ((e : Int) - (s : Int)).toNat = e - s by omega, show ((s : Int)).toNat = s by omega]
  exact ⟨by omega, zPs_Px (fun i hi => by
    have := hfg (49 + 2 * i) (by omega) (by omega)
    rw [show 388 + (49 + 2 * i) = 437 + 2 * i by omega, show 1237 + (49 + 2 * i) = 1286 + 2 * i by omega] at this
    exact this) h4⟩
set_option maxRecDepth 100000 in
theorem zS_232 {sx : zX} {ty : List Nat} {a d : Nat} {h : zH} (hd : 36 ≤ d) (T : zTY z_tt ty h) (E : zE1 ty h) (ha : ty[a]? = some 20) : z_ok sx d 232 0 (lv_args 0 [.ref a]) [] h (zRq (fun v h' => (∃ c : Int32, v = some (.int c)) ∧ zTY z_tt ty h' ∧ zE1 ty h' ∧ zFm zLm ty h h' ∧ zNi h' a)) := by
  show z_ok sx d 232 0 [(0, .ref a)] [] h _
  obtain ⟨fs0, he0, hl0⟩ := zcell0 (c := 9) (n := 23) T ha rfl rfl rfl
  refine zh zJ_232 (i := (2, 0, 0, 0)) rfl rfl (k' := 1) (lo' := [(0, .ref a)]) (st' := [.ref a]) (h' := h) rfl ?_
  refine zh zJ_232 (i := (0, 0, 0, 0)) rfl rfl (k' := 2) (lo' := [(0, .ref a)]) (st' := [.int (Int32.ofInt (0)), .ref a]) (h' := h) rfl ?_
  refine zh_run (rest := []) (as := [.ref a, .int (Int32.ofInt (0))]) zJ_232 (i := (54, 230, 1, 9)) rfl (by decide) (zcal54 (xs := [.int (Int32.ofInt (0))]) (by omega) rfl rfl he0 rfl (Nat.le_of_ble_eq_true rfl) (M' := z_m230) rfl (Nat.le_of_ble_eq_true rfl)) (zS_230a (by omega) T E ha) (fun o hh x y q => ?_)
  obtain ⟨v, rfl, rfl, rfl, c, h1, w, b, En, P, Q, D, S, g, rfl, F1, ⟨T2, E2, F2, -, hw, hb, hg, fs, he, hl, f1, f8, ⟨x11, g11, e11⟩, ⟨x10, g10, e10⟩, ⟨x12, g12, e12⟩, -⟩, N2, hc⟩ := q
  refine ⟨_, rfl, rfl, rfl, ?_⟩
  have F0 : zFm zLm ty h hh := (F1.wide (by decide +kernel)).tr zExt.rf (F2.wide (by decide +kernel))
  show z_ok sx d 232 3 [(0, .ref a)] [.int c] hh _
  refine zh zJ_232 (i := (4, 1, 0, 0)) rfl rfl (k' := 4) (lo' := [(1, .int c), (0, .ref a)]) (st' := []) (h' := hh) rfl ?_
  refine zh zJ_232 (i := (2, 0, 0, 0)) rfl rfl (k' := 5) (lo' := [(1, .int c), (0, .ref a)]) (st' := [.ref a]) (h' := hh) rfl ?_
  refine zh zJ_232 (i := (1, 1, 0, 0)) rfl rfl (k' := 6) (lo' := [(1, .int c), (0, .ref a)]) (st' := [.int c, .ref a]) (h' := hh) rfl ?_
  refine zh_if zJ_232 (a := 10) (b := 3) (z := 0) rfl (fun hc3 => ?_) (fun hc3 => ?_)
  · have h0c : 0 ≤ c.toInt := zcmp_ge.mp hc3
    obtain ⟨N, hN, eN, hlines⟩ := hc.resolve_left (by omega)
    refine zh zJ_232 (i := (0, 0, 0, -1)) rfl rfl (k' := 11) (lo' := [(1, .int c), (0, .ref a)]) (st' := [.int (Int32.ofInt (-1)), .ref a]) (h' := hh) rfl ?_
    refine zputT zJ_232 (k' := 12) rfl rfl T2 E2 ha he (by omega) (zK0 (by decide) (by decide)) (by decide +kernel) [(20, 14, 14)] (by decide +kernel) (by decide +kernel) rfl (fun h3 T3 E3 F3 he3 hq3 => ?_)
    have hn : w ≠ a := fun e => by rw [e, ha] at hw; cases hw
    have hg3 := (hq3 w hn).trans hg
    have N3 := N2.keep T3 ha F3 (zNin _ _ _ (by decide +kernel))
    refine zh zJ_232 (i := (2, 0, 0, 0)) rfl rfl (k' := 13) (lo' := [(1, .int c), (0, .ref a)]) (st' := [.ref a]) (h' := h3) rfl ?_
    refine zh zJ_232 (i := (1, 1, 0, 0)) rfl rfl (k' := 14) (lo' := [(1, .int c), (0, .ref a)]) (st' := [.int c, .ref a]) (h' := h3) rfl ?_
    refine zh_if zJ_232 (a := 17) (b := 3) (z := 0) rfl (fun hc4 => ?_) (fun hc4 => ?_)
    · refine zh zJ_232 (i := (0, 0, 0, 0)) rfl rfl (k' := 18) (lo' := [(1, .int c), (0, .ref a)]) (st' := [.int (Int32.ofInt (0)), .ref a]) (h' := h3) rfl ?_
      refine zh zJ_232 (i := (0, 0, 0, 1)) rfl rfl (k' := 19) (lo' := [(1, .int c), (0, .ref a)]) (st' := [.int (Int32.ofInt (1)), .int (Int32.ofInt (0)), .ref a]) (h' := h3) rfl ?_
      refine zh_run (rest := []) (as := [.ref a, .int (Int32.ofInt (0)), .int (Int32.ofInt (1))]) zJ_232 (i := (54, 176, 2, 9)) rfl (by decide) (zcal54 (xs := [.int (Int32.ofInt (1)), .int (Int32.ofInt (0))]) (by omega) rfl rfl he3 rfl (Nat.le_of_ble_eq_true rfl) (M' := z_m176) rfl (Nat.le_of_ble_eq_true rfl)) (zS_176a _) (fun o hh x y q => ?_)
      obtain ⟨v, rfl, rfl, rfl, rfl, rfl⟩ := q
      refine ⟨_, rfl, rfl, rfl, ?_⟩
      show z_ok sx d 232 20 [(1, .int c), (0, .ref a)] [.int (Int32.ofInt (0))] hh _
      refine zh_if zJ_232 (a := 23) (b := 0) (z := 0) rfl (fun hc5 => ?_) (fun hc5 => ?_)
      · have f13 := (List.getElem?_set_ne (l := fs) (i := 14) (j := 1) (a := .int (Int32.ofInt (-1))) (by decide)).trans f1
        refine zh zJ_232 (i := (2, 0, 0, 0)) rfl rfl (k' := 24) (lo' := [(1, .int c), (0, .ref a)]) (st' := [.ref a]) (h' := hh) rfl ?_
        refine zh_get zJ_232 (b := 1) (c := 9) (z := 0) rfl (k' := 25) rfl he3 f13 ?_
        refine zh zJ_232 (i := (0, 0, 0, 1237)) rfl rfl (k' := 26) (lo' := [(1, .int c), (0, .ref a)]) (st' := [.int (Int32.ofInt (1237)), .ref w]) (h' := hh) rfl ?_
        refine zh zJ_232 (i := (1, 1, 0, 0)) rfl rfl (k' := 27) (lo' := [(1, .int c), (0, .ref a)]) (st' := [.int c, .int (Int32.ofInt (1237)), .ref w]) (h' := hh) rfl ?_
        obtain ⟨T4, F4⟩ := zwr (ms := [(21, 1237, 2085)]) T3 hw hg3 (i := 1237) (x := c) (by omega) (zst_ok (a := zFull) (ilo := 1237) (ihi := 2085) (by decide +kernel) (zFull_ok _) (by omega) (by omega)) (zcv_ok (lo := 1237) (hi := 2085) (by decide +kernel) (by omega) (by omega))
        have E4 := zE1_stable (ms := [(21, 1237, 2085)]) (by decide +kernel) ty hh _ T3 T4 (T3.len T4) F4 E3
        have he4 := (zset_ne (h := hh) (e := .inl (0, (2086, .inl (upd g 1237 c)))) hn).trans he3
        have hg4 := zset_eq (e := .inl (0, (2086, .inl (upd g 1237 c)))) hg3
        have N4 := N3.keep T4 ha F4 (zNin _ _ _ (by decide +kernel))
        refine zh_iast zJ_232 (z := 0) rfl (k' := 28) rfl hg3 (by decide) (by decide) ?_
        rw [show (Int32.ofInt (1237)).toNatClampNeg = 1237 from by decide +kernel]
        generalize hh.set w (.inl (0, (2086, .inl (upd g 1237 c)))) = h4 at T4 F4 E4 he4 hg4 N4 ⊢
        refine zh zJ_232 (i := (0, 0, 0, 0)) rfl rfl (k' := 29) (lo' := [(1, .int c), (0, .ref a)]) (st' := [.int (Int32.ofInt (0))]) (h' := h4) rfl ?_
        refine zh zJ_232 (i := (4, 2, 0, 0)) rfl rfl (k' := 30) (lo' := [(2, .int (Int32.ofInt (0))), (1, .int c), (0, .ref a)]) (st' := []) (h' := h4) rfl ?_
        refine zLp_232 (g := upd g 1237 c) (h0 := h4) ha hw f13 (by rw [zupd_at]; omega) (fun x h5 q => ?_) ⟨T4, zFm.rf, he4, _, hg4, fun j hj => absurd hj (Nat.not_lt_zero _), fun j _ => rfl⟩
        obtain ⟨T5, F5, he5, f, hf5, q1, q2⟩ := q
        have N5 := N4.keep T5 ha F5 (zNin _ _ _ (by decide +kernel))
        have LT : zLT f := zLT_of (g := g) hN (by have := q1 0 (by omega); rw [zupd_at] at this; rw [this]; exact eN) (fun j j1 j2 => by rw [q1 j j2, zupd_ne (by omega)]) hlines
        have E5 : zE1 ty h5 := ⟨E4.1, fun b9 t9 n9 f9 hb9 hz hbf => by
          rcases hz with rfl | rfl | rfl
          · have e := E4.1 b9 w 21 (by omega) (by omega) hb9 hw
            subst e
            rw [hf5] at hbf
            cases hbf
            exact LT
          · exact zEt_keep T4 T5 F5 hb9 (Or.inr (Or.inl rfl)) hbf (fun i h1 h2 => znt_ok (by decide +kernel) h1 h2) E4.2
          · exact zEt_keep T4 T5 F5 hb9 (Or.inr (Or.inr rfl)) hbf (fun i h1 h2 => znt_ok (by decide +kernel) h1 h2) E4.2⟩
        refine zh zJ_232 (i := (2, 0, 0, 0)) rfl rfl (k' := 48) (lo' := [(2, .int x), (1, .int c), (0, .ref a)]) (st' := [.ref a]) (h' := h5) rfl ?_
        refine zh_get zJ_232 (b := 1) (c := 9) (z := 0) rfl (k' := 49) rfl he5 f13 ?_
        refine zh zJ_232 (i := (0, 0, 0, 3)) rfl rfl (k' := 50) (lo' := [(2, .int x), (1, .int c), (0, .ref a)]) (st' := [.int (Int32.ofInt (3)), .ref w]) (h' := h5) rfl ?_
        refine zh zJ_232 (i := (0, 0, 0, 1)) rfl rfl (k' := 51) (lo' := [(2, .int x), (1, .int c), (0, .ref a)]) (st' := [.int (Int32.ofInt (1)), .int (Int32.ofInt (3)), .ref w]) (h' := h5) rfl ?_
        obtain ⟨T6, F6⟩ := zwr (ms := [(21, 2, 3)]) T5 hw hf5 (i := 3) (x := Int32.ofInt (1)) (by omega) (zst_ok (a := zFull) (ilo := 2) (ihi := 3) (by decide +kernel) (zFull_ok _) (by omega) (by omega)) (zcv_ok (lo := 2) (hi := 3) (by decide +kernel) (by omega) (by omega))
        have E6 := zE1_stable (ms := [(21, 2, 3)]) (by decide +kernel) ty h5 _ T5 T6 (T5.len T6) F6 E5
        have he6 := (zset_ne (h := h5) (e := .inl (0, (2086, .inl (upd f 3 (Int32.ofInt (1)))))) hn).trans he5
        have N6 := N5.keep T6 ha F6 (zNin _ _ _ (by decide +kernel))
        refine zh_iast zJ_232 (z := 0) rfl (k' := 52) rfl hf5 (by decide) (by decide) ?_
        rw [show (Int32.ofInt (3)).toNatClampNeg = 3 from by decide +kernel]
        generalize h5.set w (.inl (0, (2086, .inl (upd f 3 (Int32.ofInt (1)))))) = h6 at T6 F6 E6 he6 N6 ⊢
        refine zh zJ_232 (i := (2, 0, 0, 0)) rfl rfl (k' := 53) (lo' := [(2, .int x), (1, .int c), (0, .ref a)]) (st' := [.ref a]) (h' := h6) rfl ?_
        refine zh zJ_232 (i := (0, 0, 0, 0)) rfl rfl (k' := 54) (lo' := [(2, .int x), (1, .int c), (0, .ref a)]) (st' := [.int (Int32.ofInt (0)), .ref a]) (h' := h6) rfl ?_
        refine zputT zJ_232 (k' := 55) rfl rfl T6 E6 ha he6 (by simp only [List.length_set]; omega) (zK0 (by decide) (by decide)) (by decide +kernel) [(20, 7, 7)] (by decide +kernel) (by decide +kernel) rfl (fun h7 T7 E7 F7 he7 hq7 => ?_)
        have N7 := N6.keep T7 ha F7 (zNin _ _ _ (by decide +kernel))
        refine zh zJ_232 (i := (1, 1, 0, 0)) rfl rfl (k' := 56) (lo' := [(2, .int x), (1, .int c), (0, .ref a)]) (st' := [.int c]) (h' := h7) rfl ?_
        refine zh_iret zJ_232 (a := 0) (b := 0) (z := 0) rfl (Or.inl rfl) ?_
        exact ⟨_, rfl, rfl, rfl, ⟨_, rfl⟩, T7, E7, ((((F0.tr zExt.rf (F3.wide (by decide +kernel))).tr zExt.rf (F4.wide (by decide +kernel))).tr zExt.rf (F5.wide (by decide +kernel))).tr zExt.rf (F6.wide (by decide +kernel))).tr zExt.rf (F7.wide (by decide +kernel)), N7⟩
      · exact absurd (show z_cmp 0 (Int32.ofInt (0)) 0 = true from rfl) hc5
    · exact absurd hc3 hc4
  · refine zh zJ_232 (i := (2, 0, 0, 0)) rfl rfl (k' := 8) (lo' := [(1, .int c), (0, .ref a)]) (st' := [.ref a, .ref a]) (h' := hh) rfl ?_
    refine zh_get zJ_232 (b := 12) (c := 9) (z := 0) rfl (k' := 9) rfl he g12 ?_
    refine zh zJ_232 (i := (30, 11, 0, 0)) rfl rfl (k' := 11) (lo' := [(1, .int c), (0, .ref a)]) (st' := [.int x12, .ref a]) (h' := hh) rfl ?_
    refine zputT zJ_232 (k' := 12) rfl rfl T2 E2 ha he (by omega) (zFull_ok x12) (by decide +kernel) [(20, 14, 14)] (by decide +kernel) (by decide +kernel) rfl (fun h3 T3 E3 F3 he3 hq3 => ?_)
    have N3 := N2.keep T3 ha F3 (zNin _ _ _ (by decide +kernel))
    refine zh zJ_232 (i := (2, 0, 0, 0)) rfl rfl (k' := 13) (lo' := [(1, .int c), (0, .ref a)]) (st' := [.ref a]) (h' := h3) rfl ?_
    refine zh zJ_232 (i := (1, 1, 0, 0)) rfl rfl (k' := 14) (lo' := [(1, .int c), (0, .ref a)]) (st' := [.int c, .ref a]) (h' := h3) rfl ?_
    refine zh_if zJ_232 (a := 17) (b := 3) (z := 0) rfl (fun hc6 => ?_) (fun hc6 => ?_)
    · exact absurd hc6 hc3
    · refine zh zJ_232 (i := (0, 0, 0, 1)) rfl rfl (k' := 16) (lo' := [(1, .int c), (0, .ref a)]) (st' := [.int (Int32.ofInt (1)), .ref a]) (h' := h3) rfl ?_
      refine zh zJ_232 (i := (30, 18, 0, 0)) rfl rfl (k' := 18) (lo' := [(1, .int c), (0, .ref a)]) (st' := [.int (Int32.ofInt (1)), .ref a]) (h' := h3) rfl ?_
      refine zh zJ_232 (i := (0, 0, 0, 1)) rfl rfl (k' := 19) (lo' := [(1, .int c), (0, .ref a)]) (st' := [.int (Int32.ofInt (1)), .int (Int32.ofInt (1)), .ref a]) (h' := h3) rfl ?_
      refine zh_run (rest := []) (as := [.ref a, .int (Int32.ofInt (1)), .int (Int32.ofInt (1))]) zJ_232 (i := (54, 176, 2, 9)) rfl (by decide) (zcal54 (xs := [.int (Int32.ofInt (1)), .int (Int32.ofInt (1))]) (by omega) rfl rfl he3 rfl (Nat.le_of_ble_eq_true rfl) (M' := z_m176) rfl (Nat.le_of_ble_eq_true rfl)) (zS_176b _ T3 E3 ha) (fun o hh x y q => ?_)
      obtain ⟨v, rfl, rfl, rfl, rfl, T4, E4, F4⟩ := q
      refine ⟨_, rfl, rfl, rfl, ?_⟩
      show z_ok sx d 232 20 [(1, .int c), (0, .ref a)] [.int (Int32.ofInt (1))] hh _
      have N4 := N3.keep T4 ha F4 (zNin _ _ _ (by decide +kernel))
      refine zh_if zJ_232 (a := 23) (b := 0) (z := 0) rfl (fun hc7 => ?_) (fun hc7 => ?_)
      · exact absurd hc7 (by decide)
      · refine zh zJ_232 (i := (0, 0, 0, 0)) rfl rfl (k' := 22) (lo' := [(1, .int c), (0, .ref a)]) (st' := [.int (Int32.ofInt (0))]) (h' := hh) rfl ?_
        refine zh_iret zJ_232 (a := 0) (b := 0) (z := 0) rfl (Or.inl rfl) ?_
        exact ⟨_, rfl, rfl, rfl, ⟨_, rfl⟩, T4, E4, (F0.tr zExt.rf (F3.wide (by decide +kernel))).tr zExt.rf (F4.wide (by decide +kernel)), N4⟩
end
