/-! isDealt -/
set_option maxRecDepth 100000 in
theorem zV_240 (H : ∀ c, c < 240 → ∀ c', zCtl[c]? = some c' → zVd z_tt zE1 c') : zVd z_tt zE1 zC240 := by
  intro sx d ty h as hd T E hA
  have hd : 20 ≤ d := hd
  match as, hA with
  | [v0, v1], hA =>
  obtain ⟨⟨a, t, rfl, ha, t1, t2⟩, ⟨hr, rfl, r1, r2⟩, -⟩ := hA
  have et : t = 20 := by omega
  subst et
  show z_ok sx d 287 0 [(0, .ref a), (1, .int hr)] [] h _
  obtain ⟨fs0, he0, hl0⟩ := zcell0 (c := 9) (n := 23) T ha rfl rfl rfl
  refine zh zJ_287 (i := (2, 0, 0, 0)) rfl rfl (k' := 1) (lo' := [(0, .ref a), (1, .int hr)]) (st' := [.ref a]) (h' := h) rfl ?_
  refine zh zJ_287 (i := (1, 1, 0, 0)) rfl rfl (k' := 2) (lo' := [(0, .ref a), (1, .int hr)]) (st' := [.int hr, .ref a]) (h' := h) rfl ?_
  refine zh_run zJ_287 (i := (54, 286, 1, 9)) (rest := []) (as := [.ref a, .int hr]) rfl (by decide) (zcal54 (xs := [.int hr]) (by omega) rfl rfl he0 rfl (Nat.le_of_ble_eq_true rfl) (M' := z_m286) rfl (Nat.le_of_ble_eq_true rfl)) (zR_286 (by omega) H ha r1 r2 T E) (fun o h2 x9 y9 q => ?_)
  obtain ⟨rfl, rfl, ty2, r, s, cf, X, T2, E2, F2, rfl, S2, C2, V2⟩ := q
  refine ⟨_, rfl, rfl, rfl, ?_⟩
  have G2 : zFm (zcM zC240) ty h h2 := F2.mono (fun t i ⟨q, hq, q1⟩ => by
    have hs : ∀ q ∈ zMlf, q ∈ zcM zC240 := by decide +kernel
    exact ⟨q, hs q hq, q1⟩)
  have hret : ∀ v : Int32, 0 ≤ v.toInt → v.toInt ≤ 1 → zPo z_tt zE1 zC240 ty h (.inl (some (.int v))) h2 0 0 := fun v b1 b2 => ⟨ty2, X, T2, E2, G2, ⟨v, rfl, b1, b2⟩, Nat.le_refl _, Nat.le_refl _⟩
  show z_ok sx d 287 3 [(0, .ref a), (1, .int hr)] [.int r] h2 _
  refine zh zJ_287 (i := (4, 2, 0, 0)) rfl rfl (k' := 4) (lo' := [(2, .int r), (0, .ref a), (1, .int hr)]) (st' := []) (h' := h2) rfl ?_
  refine zh zJ_287 (i := (1, 2, 0, 0)) rfl rfl (k' := 5) (lo' := [(2, .int r), (0, .ref a), (1, .int hr)]) (st' := [.int r]) (h' := h2) rfl ?_
  refine zh zJ_287 (i := (0, 0, 0, -1)) rfl rfl (k' := 6) (lo' := [(2, .int r), (0, .ref a), (1, .int hr)]) (st' := [.int (Int32.ofInt (-1)), .int r]) (h' := h2) rfl ?_
  refine zh_icmp zJ_287 (a := 9) (b := 1) (z := 0) rfl (fun hc => ?_) (fun hc => ?_)
  · have hne : r.toInt ≠ -1 := fun e => zcmp_ne.mp hc (by rw [e]; rfl)
    obtain ⟨f1, f2, fb⟩ := V2.resolve_left hne
    obtain ⟨fs, he, hl⟩ := zcell0 (c := 9) (n := 23) T2 (X a 20 ha) rfl rfl rfl
    obtain ⟨wg, hg1, hg2⟩ := zfd2 (b := 19) (u := 30) T2 (X a 20 ha) he (by omega) (by decide +kernel)
    obtain ⟨fg, hfg⟩ := zcell1 (n := 6) T2 hg2 rfl rfl
    have rn : r.toNatClampNeg = r.toInt.toNat := rfl
    refine zh zJ_287 (i := (2, 0, 0, 0)) rfl rfl (k' := 10) (lo' := [(2, .int r), (0, .ref a), (1, .int hr)]) (st' := [.ref a]) (h' := h2) rfl ?_
    refine zh_get zJ_287 (b := 19) (c := 9) (z := 0) rfl (k' := 11) rfl he hg1 ?_
    refine zh zJ_287 (i := (1, 2, 0, 0)) rfl rfl (k' := 12) (lo' := [(2, .int r), (0, .ref a), (1, .int hr)]) (st' := [.int r, .ref wg]) (h' := h2) rfl ?_
    refine zh zJ_287 (i := (28, 0, 0, 0)) rfl rfl (k' := 13) (lo' := [(2, .int r), (0, .ref a), (1, .int hr)]) (st' := [.int r, .ref wg, .int r, .ref wg]) (h' := h2) rfl ?_
    refine zh_iald zJ_287 (z := 0) rfl (k' := 14) rfl hfg f1 (by omega) ?_
    refine zh zJ_287 (i := (0, 0, 0, 1)) rfl rfl (k' := 15) (lo' := [(2, .int r), (0, .ref a), (1, .int hr)]) (st' := [.int (Int32.ofInt (1)), .int (fg r.toNatClampNeg), .int r, .ref wg]) (h' := h2) rfl ?_
    refine zh zJ_287 (i := (8, 0, 0, 0)) rfl rfl (k' := 16) (lo' := [(2, .int r), (0, .ref a), (1, .int hr)]) (st' := [.int (fg r.toNatClampNeg + Int32.ofInt (1)), .int r, .ref wg]) (h' := h2) rfl ?_
    obtain ⟨T3, F3⟩ := zwr (ms := [(30, 0, 5)]) T2 hg2 hfg (i := r.toNatClampNeg) (x := fg r.toNatClampNeg + Int32.ofInt (1)) (by omega) (zst_ok (a := zFull) (ilo := 0) (ihi := 5) (by decide +kernel) (zFull_ok _) (by omega) (by omega)) (zcv_ok (lo := 0) (hi := 5) (by decide +kernel) (by omega) (by omega))
    have E3 := zE1_stable (ms := [(30, 0, 5)]) (by decide +kernel) ty2 h2 _ T2 T3 (T2.len T3) F3 E2
    have S3 := S2.keep T2 (X a 20 ha) F3 (fun i _ _ ⟨q, hq, q1, _⟩ => by rw [List.mem_singleton.mp hq] at q1; cases q1) (fun i ⟨q, hq, q1, _⟩ => by rw [List.mem_singleton.mp hq] at q1; cases q1)
    have G3 := G2.tr X (F3.mono (ms' := zcM zC240) (fun t i ⟨q, hq, q1⟩ => ⟨q, by rw [List.mem_singleton.mp hq]; decide +kernel, q1⟩))
    refine zh_iast zJ_287 (z := 0) rfl (k' := 17) rfl hfg f1 (by omega) ?_
    obtain ⟨_, rk, N, K⟩ := C2
    exact zLp_287 (rk := rk) X (X a 20 ha) (fun g b1 b2 b3 => (K g b1 b2 b3).2) (rk r.toInt + 1) _ _ r T3 E3 G3 S3 rfl rfl (Or.inr ⟨f1, f2, fb, Nat.lt_succ_self _⟩)
  · refine zh zJ_287 (i := (0, 0, 0, 0)) rfl rfl (k' := 8) (lo' := [(2, .int r), (0, .ref a), (1, .int hr)]) (st' := [.int (Int32.ofInt (0))]) (h' := h2) rfl ?_
    refine zh_iret zJ_287 (a := 0) (b := 0) (z := 0) rfl (Or.inr ⟨rfl, Or.inl rfl⟩) ?_
    exact hret _ (by decide) (by decide)
