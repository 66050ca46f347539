/-! sumOf of the reference; printed with wip/gen/gen_sum3.py -/
theorem zJ_238 : zJ3 238 z_m238 z_c238 z_h238 := ⟨rfl, rfl, rfl⟩
set_option maxRecDepth 100000 in
theorem zLp_238 {sx : zX} {d a : Nat} {ty0 : List Nat} {h0 : zH} {k xf xh : Int32} (hd : 21 ≤ d) (H : ∀ c, c < 239 → ∀ c', zCtl[c]? = some c' → zVd z_tt zE1 c') (ha0 : ty0[a]? = some 20) (f1 : -1 ≤ xf.toInt) (f2 : xf.toInt ≤ 9) : ∀ (r : Nat) (ty : List Nat) (h : zH) (i : Nat) (n sm : Int32), zExt ty0 ty → zTY z_tt ty h → zE1 ty h → zFm (zcM zC239) ty0 h0 h → n.toInt = (i : Int) → i + r = 13 → z_ok sx d 238 4 [(5, .int n), (4, .int sm), (0, .ref a), (1, .int k), (2, .int xf), (3, .int xh)] [] h (zPo z_tt zE1 zC239 ty0 h0)
  | r, ty, h, i, n, sm, X, T, E, F, hi, hr => by
    have ih : ∀ (ty : List Nat) (h : zH) (i' : Nat) (n sm : Int32), zExt ty0 ty → zTY z_tt ty h → zE1 ty h → zFm (zcM zC239) ty0 h0 h → n.toInt = (i' : Int) → i' + (r - 1) = 13 → 0 < r → z_ok sx d 238 4 [(5, .int n), (4, .int sm), (0, .ref a), (1, .int k), (2, .int xf), (3, .int xh)] [] h (zPo z_tt zE1 zC239 ty0 h0) := fun ty h i' n sm a1 a2 a3 a4 a5 a6 a7 => by
      cases r with
      | zero => omega
      | succ r => exact zLp_238 hd H ha0 f1 f2 r ty h i' n sm a1 a2 a3 a4 a5 a6
    have hret : ∀ v : Int32, zPo z_tt zE1 zC239 ty0 h0 (.inl (some (.int v))) h 0 0 := fun v => ⟨ty, X, T, E, F, zFull_ok (ty := ty) v, Nat.le_refl _, Nat.le_refl _⟩
    obtain ⟨fs, he, hl⟩ := zcell0 (c := 9) (n := 23) T (X a 20 ha0) rfl rfl rfl
    obtain ⟨w, hw1, hw2⟩ := zfd2 (b := 1) (u := 21) T (X a 20 ha0) he (by omega) (by decide +kernel)
    obtain ⟨f, hf⟩ := zcell1 (n := 2086) T hw2 rfl rfl
    refine zh zJ_238 (i := (2, 0, 0, 0)) rfl rfl (k' := 5) (lo' := [(5, .int n), (4, .int sm), (0, .ref a), (1, .int k), (2, .int xf), (3, .int xh)]) (st' := [.ref a]) (h' := h) rfl ?_
    refine zh_get zJ_238 (a := a) (b := 1) (c := 9) (z := 0) rfl (k' := 6) rfl he hw1 ?_
    refine zh zJ_238 (i := (0, 0, 0, 3)) rfl rfl (k' := 7) (lo' := [(5, .int n), (4, .int sm), (0, .ref a), (1, .int k), (2, .int xf), (3, .int xh)]) (st' := [.int (Int32.ofInt (3)), .ref w]) (h' := h) rfl ?_
    refine zh_iald zJ_238 (z := 0) rfl (k' := 8) rfl hf (by decide) (by decide) ?_
    refine zh zJ_238 (i := (0, 0, 0, 1)) rfl rfl (k' := 9) (lo' := [(5, .int n), (4, .int sm), (0, .ref a), (1, .int k), (2, .int xf), (3, .int xh)]) (st' := [.int (Int32.ofInt (1)), .int (f (Int32.ofInt (3)).toNatClampNeg)]) (h' := h) rfl ?_
    refine zh_icmp zJ_238 (a := 47) (b := 1) (z := 0) rfl (fun hc => ?_) (fun hc => ?_)
    · refine zh zJ_238 (i := (1, 4, 0, 0)) rfl rfl (k' := 48) (lo' := [(5, .int n), (4, .int sm), (0, .ref a), (1, .int k), (2, .int xf), (3, .int xh)]) (st' := [.int sm]) (h' := h) rfl ?_
      refine zh_iret zJ_238 (a := 0) (b := 0) (z := 0) rfl (Or.inl rfl) ?_
      exact hret _
    · refine zh zJ_238 (i := (1, 5, 0, 0)) rfl rfl (k' := 11) (lo' := [(5, .int n), (4, .int sm), (0, .ref a), (1, .int k), (2, .int xf), (3, .int xh)]) (st' := [.int n]) (h' := h) rfl ?_
      refine zh zJ_238 (i := (2, 0, 0, 0)) rfl rfl (k' := 12) (lo' := [(5, .int n), (4, .int sm), (0, .ref a), (1, .int k), (2, .int xf), (3, .int xh)]) (st' := [.ref a, .int n]) (h' := h) rfl ?_
      refine zh_get zJ_238 (a := a) (b := 1) (c := 9) (z := 0) rfl (k' := 13) rfl he hw1 ?_
      refine zh zJ_238 (i := (0, 0, 0, 388)) rfl rfl (k' := 14) (lo' := [(5, .int n), (4, .int sm), (0, .ref a), (1, .int k), (2, .int xf), (3, .int xh)]) (st' := [.int (Int32.ofInt (388)), .ref w, .int n]) (h' := h) rfl ?_
      refine zh_iald zJ_238 (z := 0) rfl (k' := 15) rfl hf (by decide) (by decide) ?_
      rw [show (Int32.ofInt (388)).toNatClampNeg = 388 from rfl]
      refine zh_icmp zJ_238 (a := 47) (b := 3) (z := 0) rfl (fun hc => ?_) (fun hc => ?_)
      · refine zh zJ_238 (i := (1, 4, 0, 0)) rfl rfl (k' := 48) (lo' := [(5, .int n), (4, .int sm), (0, .ref a), (1, .int k), (2, .int xf), (3, .int xh)]) (st' := [.int sm]) (h' := h) rfl ?_
        refine zh_iret zJ_238 (a := 0) (b := 0) (z := 0) rfl (Or.inl rfl) ?_
        exact hret _
      · have hn : n.toInt < (f 388).toInt := by
          have : ¬ (f 388).toInt ≤ n.toInt := fun e => hc (zcmp_ge.mpr e)
          omega
        have hcnt := (E.2 w 21 2086 f hw2 (Or.inl rfl) hf).1
        have e4 : (Int32.ofInt (4) * n).toInt = 4 * n.toInt := by
          rw [Int32.toInt_mul, show (Int32.ofInt (4)).toInt = 4 from rfl]
          exact z_bm (by omega) (by omega)
        have e5 : (Int32.ofInt (389) + Int32.ofInt (4) * n).toInt = 389 + 4 * n.toInt := by
          rw [Int32.toInt_add, e4, show (Int32.ofInt (389)).toInt = 389 from rfl, z_bm (by omega) (by omega)]
        have e6 : (Int32.ofInt (389) + Int32.ofInt (4) * n + Int32.ofInt (1)).toInt = 390 + 4 * n.toInt := by
          rw [Int32.toInt_add, e5, show (Int32.ofInt (1)).toInt = 1 from rfl, z_bm (by omega) (by omega)]
          omega
        have skip : ∀ (ty9 : List Nat) (h9 : zH) (sm9 : Int32), zExt ty0 ty9 → zTY z_tt ty9 h9 → zE1 ty9 h9 → zFm (zcM zC239) ty0 h0 h9 → z_ok sx d 238 45 [(5, .int n), (4, .int sm9), (0, .ref a), (1, .int k), (2, .int xf), (3, .int xh)] [] h9 (zPo z_tt zE1 zC239 ty0 h0) := by
          intro ty9 h9 sm9 X9 T9 E9 F9
          refine zh zJ_238 (i := (7, 5, 0, 1)) rfl rfl (k' := 46) (lo' := [(5, .int (n + Int32.ofInt 1)), (4, .int sm9), (0, .ref a), (1, .int k), (2, .int xf), (3, .int xh)]) (st' := []) (h' := h9) rfl ?_
          refine zh zJ_238 (i := (30, 4, 0, 0)) rfl rfl (k' := 4) (lo' := [(5, .int (n + Int32.ofInt 1)), (4, .int sm9), (0, .ref a), (1, .int k), (2, .int xf), (3, .int xh)]) (st' := []) (h' := h9) rfl ?_
          exact ih ty9 h9 (i + 1) _ sm9 X9 T9 E9 F9 (zinc hi (by omega)) (by omega) (by omega)
        refine zh zJ_238 (i := (2, 0, 0, 0)) rfl rfl (k' := 17) (lo' := [(5, .int n), (4, .int sm), (0, .ref a), (1, .int k), (2, .int xf), (3, .int xh)]) (st' := [.ref a]) (h' := h) rfl ?_
        refine zh_get zJ_238 (a := a) (b := 1) (c := 9) (z := 0) rfl (k' := 18) rfl he hw1 ?_
        refine zh zJ_238 (i := (0, 0, 0, 389)) rfl rfl (k' := 19) (lo' := [(5, .int n), (4, .int sm), (0, .ref a), (1, .int k), (2, .int xf), (3, .int xh)]) (st' := [.int (Int32.ofInt (389)), .ref w]) (h' := h) rfl ?_
        refine zh zJ_238 (i := (0, 0, 0, 4)) rfl rfl (k' := 20) (lo' := [(5, .int n), (4, .int sm), (0, .ref a), (1, .int k), (2, .int xf), (3, .int xh)]) (st' := [.int (Int32.ofInt (4)), .int (Int32.ofInt (389)), .ref w]) (h' := h) rfl ?_
        refine zh zJ_238 (i := (1, 5, 0, 0)) rfl rfl (k' := 21) (lo' := [(5, .int n), (4, .int sm), (0, .ref a), (1, .int k), (2, .int xf), (3, .int xh)]) (st' := [.int n, .int (Int32.ofInt (4)), .int (Int32.ofInt (389)), .ref w]) (h' := h) rfl ?_
        refine zh zJ_238 (i := (10, 0, 0, 0)) rfl rfl (k' := 22) (lo' := [(5, .int n), (4, .int sm), (0, .ref a), (1, .int k), (2, .int xf), (3, .int xh)]) (st' := [.int ((Int32.ofInt (4)) * n), .int (Int32.ofInt (389)), .ref w]) (h' := h) rfl ?_
        refine zh zJ_238 (i := (8, 0, 0, 0)) rfl rfl (k' := 23) (lo' := [(5, .int n), (4, .int sm), (0, .ref a), (1, .int k), (2, .int xf), (3, .int xh)]) (st' := [.int ((Int32.ofInt (389)) + ((Int32.ofInt (4)) * n)), .ref w]) (h' := h) rfl ?_
        refine zh_iald zJ_238 (z := 0) rfl (k' := 24) rfl hf (by omega) (by omega) ?_
        refine zh zJ_238 (i := (1, 1, 0, 0)) rfl rfl (k' := 25) (lo' := [(5, .int n), (4, .int sm), (0, .ref a), (1, .int k), (2, .int xf), (3, .int xh)]) (st' := [.int k, .int (f ((Int32.ofInt (389)) + ((Int32.ofInt (4)) * n)).toNatClampNeg)]) (h' := h) rfl ?_
        refine zh_icmp zJ_238 (a := 45) (b := 1) (z := 0) rfl (fun hc => ?_) (fun hc => ?_)
        · exact skip ty h sm X T E F
        · refine zh zJ_238 (i := (2, 0, 0, 0)) rfl rfl (k' := 27) (lo' := [(5, .int n), (4, .int sm), (0, .ref a), (1, .int k), (2, .int xf), (3, .int xh)]) (st' := [.ref a]) (h' := h) rfl ?_
          refine zh zJ_238 (i := (1, 5, 0, 0)) rfl rfl (k' := 28) (lo' := [(5, .int n), (4, .int sm), (0, .ref a), (1, .int k), (2, .int xf), (3, .int xh)]) (st' := [.int n, .ref a]) (h' := h) rfl ?_
          refine zh zJ_238 (i := (1, 2, 0, 0)) rfl rfl (k' := 29) (lo' := [(5, .int n), (4, .int sm), (0, .ref a), (1, .int k), (2, .int xf), (3, .int xh)]) (st' := [.int xf, .int n, .ref a]) (h' := h) rfl ?_
          refine zh zJ_238 (i := (1, 3, 0, 0)) rfl rfl (k' := 30) (lo' := [(5, .int n), (4, .int sm), (0, .ref a), (1, .int k), (2, .int xf), (3, .int xh)]) (st' := [.int xh, .int xf, .int n, .ref a]) (h' := h) rfl ?_
          refine zh_run zJ_238 (i := (54, 237, 3, 9)) (rest := []) (as := [.ref a, .int n, .int xf, .int xh]) rfl (by decide) (zcal54 (xs := [.int xh, .int xf, .int n]) (by omega) rfl rfl he rfl (Nat.le_of_ble_eq_true rfl) (M' := z_m237) rfl (Nat.le_of_ble_eq_true rfl)) (zR_237 (by omega) H T E (X a 20 ha0) hw2 hf (by omega) hn f1 f2) (fun o h' x9 y9 q => ?_)
          obtain ⟨ty', q1, q2, q3, q4, q5⟩ := q
          cases o with
          | inr e => exact absurd q5.1 List.not_mem_nil
          | inl v =>
          obtain ⟨q5, q6, q7⟩ := q5
          obtain ⟨v9, rfl, c, rfl, c1, c2⟩ := zRt1 q5
          have q6 : x9 ≤ 0 := q6
          have q7 : y9 ≤ 0 := q7
          refine ⟨_, rfl, by omega, by omega, ?_⟩
          have F' : zFm (zcM zC239) ty0 h0 h' := F.tr X q4
          have X' := X.tr q1
          obtain ⟨fs2, he2, hl2⟩ := zcell0 (c := 9) (n := 23) q2 (X' a 20 ha0) rfl rfl rfl
          obtain ⟨w2, hw12, hw22⟩ := zfd2 (b := 1) (u := 21) q2 (X' a 20 ha0) he2 (by omega) (by decide +kernel)
          obtain ⟨f9, hf9⟩ := zcell1 (n := 2086) q2 hw22 rfl rfl
          show z_ok sx d 238 31 [(5, .int n), (4, .int sm), (0, .ref a), (1, .int k), (2, .int xf), (3, .int xh)] [.int c] h' _
          refine zh_if zJ_238 (a := 45) (b := 0) (z := 0) rfl (fun hc => ?_) (fun hc => ?_)
          · exact skip ty' h' sm X' q2 q3 F'
          · refine zh zJ_238 (i := (1, 4, 0, 0)) rfl rfl (k' := 33) (lo' := [(5, .int n), (4, .int sm), (0, .ref a), (1, .int k), (2, .int xf), (3, .int xh)]) (st' := [.int sm]) (h' := h') rfl ?_
            refine zh zJ_238 (i := (2, 0, 0, 0)) rfl rfl (k' := 34) (lo' := [(5, .int n), (4, .int sm), (0, .ref a), (1, .int k), (2, .int xf), (3, .int xh)]) (st' := [.ref a, .int sm]) (h' := h') rfl ?_
            refine zh_get zJ_238 (a := a) (b := 1) (c := 9) (z := 0) rfl (k' := 35) rfl he2 hw12 ?_
            refine zh zJ_238 (i := (0, 0, 0, 389)) rfl rfl (k' := 36) (lo' := [(5, .int n), (4, .int sm), (0, .ref a), (1, .int k), (2, .int xf), (3, .int xh)]) (st' := [.int (Int32.ofInt (389)), .ref w2, .int sm]) (h' := h') rfl ?_
            refine zh zJ_238 (i := (0, 0, 0, 4)) rfl rfl (k' := 37) (lo' := [(5, .int n), (4, .int sm), (0, .ref a), (1, .int k), (2, .int xf), (3, .int xh)]) (st' := [.int (Int32.ofInt (4)), .int (Int32.ofInt (389)), .ref w2, .int sm]) (h' := h') rfl ?_
            refine zh zJ_238 (i := (1, 5, 0, 0)) rfl rfl (k' := 38) (lo' := [(5, .int n), (4, .int sm), (0, .ref a), (1, .int k), (2, .int xf), (3, .int xh)]) (st' := [.int n, .int (Int32.ofInt (4)), .int (Int32.ofInt (389)), .ref w2, .int sm]) (h' := h') rfl ?_
            refine zh zJ_238 (i := (10, 0, 0, 0)) rfl rfl (k' := 39) (lo' := [(5, .int n), (4, .int sm), (0, .ref a), (1, .int k), (2, .int xf), (3, .int xh)]) (st' := [.int ((Int32.ofInt (4)) * n), .int (Int32.ofInt (389)), .ref w2, .int sm]) (h' := h') rfl ?_
            refine zh zJ_238 (i := (8, 0, 0, 0)) rfl rfl (k' := 40) (lo' := [(5, .int n), (4, .int sm), (0, .ref a), (1, .int k), (2, .int xf), (3, .int xh)]) (st' := [.int ((Int32.ofInt (389)) + ((Int32.ofInt (4)) * n)), .ref w2, .int sm]) (h' := h') rfl ?_
            refine zh zJ_238 (i := (0, 0, 0, 1)) rfl rfl (k' := 41) (lo' := [(5, .int n), (4, .int sm), (0, .ref a), (1, .int k), (2, .int xf), (3, .int xh)]) (st' := [.int (Int32.ofInt (1)), .int ((Int32.ofInt (389)) + ((Int32.ofInt (4)) * n)), .ref w2, .int sm]) (h' := h') rfl ?_
            refine zh zJ_238 (i := (8, 0, 0, 0)) rfl rfl (k' := 42) (lo' := [(5, .int n), (4, .int sm), (0, .ref a), (1, .int k), (2, .int xf), (3, .int xh)]) (st' := [.int (((Int32.ofInt (389)) + ((Int32.ofInt (4)) * n)) + (Int32.ofInt (1))), .ref w2, .int sm]) (h' := h') rfl ?_
            refine zh_iald zJ_238 (z := 0) rfl (k' := 43) rfl hf9 (by omega) (by omega) ?_
            refine zh zJ_238 (i := (8, 0, 0, 0)) rfl rfl (k' := 44) (lo' := [(5, .int n), (4, .int sm), (0, .ref a), (1, .int k), (2, .int xf), (3, .int xh)]) (st' := [.int (sm + (f9 (((Int32.ofInt (389)) + ((Int32.ofInt (4)) * n)) + (Int32.ofInt (1))).toNatClampNeg))]) (h' := h') rfl ?_
            refine zh zJ_238 (i := (4, 4, 0, 0)) rfl rfl (k' := 45) (lo' := [(4, .int (sm + (f9 (((Int32.ofInt (389)) + ((Int32.ofInt (4)) * n)) + (Int32.ofInt (1))).toNatClampNeg))), (5, .int n), (0, .ref a), (1, .int k), (2, .int xf), (3, .int xh)]) (st' := []) (h' := h') rfl ?_
            refine zh zJ_238 (i := (7, 5, 0, 1)) rfl rfl (k' := 46) (lo' := [(5, .int (n + Int32.ofInt 1)), (4, .int (sm + (f9 (((Int32.ofInt (389)) + ((Int32.ofInt (4)) * n)) + (Int32.ofInt (1))).toNatClampNeg))), (0, .ref a), (1, .int k), (2, .int xf), (3, .int xh)]) (st' := []) (h' := h') rfl ?_
            refine zh zJ_238 (i := (30, 4, 0, 0)) rfl rfl (k' := 4) (lo' := [(5, .int (n + Int32.ofInt 1)), (4, .int (sm + (f9 (((Int32.ofInt (389)) + ((Int32.ofInt (4)) * n)) + (Int32.ofInt (1))).toNatClampNeg))), (0, .ref a), (1, .int k), (2, .int xf), (3, .int xh)]) (st' := []) (h' := h') rfl ?_
            exact ih ty' h' (i + 1) _ _ X' q2 q3 F' (zinc hi (by omega)) (by omega) (by omega)
set_option maxRecDepth 100000 in
theorem zV_239 (H : ∀ c, c < 239 → ∀ c', zCtl[c]? = some c' → zVd z_tt zE1 c') : zVd z_tt zE1 zC239 := by
  intro sx d ty h as hd T E hA
  have hd : 22 ≤ d := hd
  match as, hA with
  | [v0, v1, v2, v3], hA =>
  obtain ⟨⟨a, t, rfl, ha, t1, t2⟩, ⟨k, rfl, -, -⟩, ⟨xf, rfl, f1, f2⟩, ⟨xh, rfl, -, -⟩, -⟩ := hA
  have et : t = 20 := by omega
  subst et
  show z_ok sx d 238 0 [(0, .ref a), (1, .int k), (2, .int xf), (3, .int xh)] [] h _
  refine zh zJ_238 (i := (0, 0, 0, 0)) rfl rfl (k' := 1) (lo' := [(0, .ref a), (1, .int k), (2, .int xf), (3, .int xh)]) (st' := [.int (Int32.ofInt (0))]) (h' := h) rfl ?_
  refine zh zJ_238 (i := (4, 4, 0, 0)) rfl rfl (k' := 2) (lo' := [(4, .int (Int32.ofInt (0))), (0, .ref a), (1, .int k), (2, .int xf), (3, .int xh)]) (st' := []) (h' := h) rfl ?_
  refine zh zJ_238 (i := (0, 0, 0, 0)) rfl rfl (k' := 3) (lo' := [(4, .int (Int32.ofInt (0))), (0, .ref a), (1, .int k), (2, .int xf), (3, .int xh)]) (st' := [.int (Int32.ofInt (0))]) (h' := h) rfl ?_
  refine zh zJ_238 (i := (4, 5, 0, 0)) rfl rfl (k' := 4) (lo' := [(5, .int (Int32.ofInt (0))), (4, .int (Int32.ofInt (0))), (0, .ref a), (1, .int k), (2, .int xf), (3, .int xh)]) (st' := []) (h' := h) rfl ?_
  exact zLp_238 (by omega) H ha f1 f2 13 ty h 0 _ _ zExt.rf T E zFm.rf rfl rfl
