/-! Math.floorMod by hand -/
theorem zxor_sign (x y : Int32) (hy : 0 ≤ y.toInt) : 0 ≤ (x ^^^ y).toInt ↔ 0 ≤ x.toInt := by
  have e1 : (x ^^^ y).toInt = (x.toBitVec ^^^ y.toBitVec).toInt := by rw [← Int32.toInt_toBitVec, Int32.toBitVec_xor]
  have m1 := BitVec.msb_eq_toInt (x := x.toBitVec ^^^ y.toBitVec)
  have m2 := BitVec.msb_eq_toInt (x := x.toBitVec)
  have m3 := BitVec.msb_eq_toInt (x := y.toBitVec)
  rw [BitVec.msb_xor, m2, m3] at m1
  rw [Int32.toInt_toBitVec, Int32.toInt_toBitVec, ← e1] at m1
  have h3 : decide (y.toInt < 0) = false := by simpa using hy
  rw [h3, Bool.xor_false] at m1
  have := decide_eq_decide.mp m1
  omega
theorem zJ_312 : zJ3 312 z_m312 z_c312 z_h312 := ⟨rfl, rfl, rfl⟩
set_option maxRecDepth 100000 in
theorem zV_fm (Ex : List Nat → zH → Prop) (n : Int) (h1 : 0 < n) (h2 : n ≤ 1000) : zVd z_tt Ex (312, [zFull, (0, n, n)], [(0, 0, n - 1)], [], [], 0, (0, 0, 0, 0), []) := by
  intro sx d ty h as hd T E hA
  match as, hA with
  | [vx, vy], hA =>
  obtain ⟨x, rfl, x1, x2⟩ := hA.1
  obtain ⟨y, rfl, y1, y2⟩ := hA.2.1
  have hy : y.toInt = n := by omega
  have hy0 : ¬ y = 0 := zne0 (by omega)
  have hr := zfm_num (x := x) (y := y) (by omega)
  generalize hrr : x - x / y * y = r at hr
  have hend : ∀ (w : Int32), 0 ≤ w.toInt → w.toInt ≤ n - 1 → zPo z_tt Ex (312, [zFull, (0, n, n)], [(0, 0, n - 1)], [], [], 0, (0, 0, 0, 0), []) ty h (.inl (some (.int w))) h 0 0 := fun w w1 w2 => ⟨ty, zExt.rf, T, E, zFm.rf, ⟨w, rfl, w1, w2⟩, Nat.le_refl _, Nat.le_refl _⟩
  show z_ok sx d 312 0 [(0, .int x), (1, .int y)] [] h _
  refine zh zJ_312 (i := (1, 0, 0, 0)) rfl rfl (k' := 1) (lo' := [(0, .int x), (1, .int y)]) (st' := [.int x]) (h' := h) rfl ?_
  refine zh zJ_312 (i := (1, 1, 0, 0)) rfl rfl (k' := 2) (lo' := [(0, .int x), (1, .int y)]) (st' := [.int y, .int x]) (h' := h) rfl ?_
  refine zh zJ_312 (i := (12, 0, 0, 0)) rfl rfl (k' := 3) (lo' := [(0, .int x), (1, .int y)]) (st' := [.int r]) (h' := h) (by
    show zo_irem sx d 0 0 0 2 _ [.int y, .int x] h = _
    unfold zo_irem
    dsimp only
    rw [if_neg hy0, hrr]) ?_
  refine zh zJ_312 (i := (4, 2, 0, 0)) rfl rfl (k' := 4) (lo' := [(2, .int r), (0, .int x), (1, .int y)]) (st' := []) (h' := h) rfl ?_
  refine zh zJ_312 (i := (1, 0, 0, 0)) rfl rfl (k' := 5) (lo' := [(2, .int r), (0, .int x), (1, .int y)]) (st' := [.int x]) (h' := h) rfl ?_
  refine zh zJ_312 (i := (1, 1, 0, 0)) rfl rfl (k' := 6) (lo' := [(2, .int r), (0, .int x), (1, .int y)]) (st' := [.int y, .int x]) (h' := h) rfl ?_
  refine zh zJ_312 (i := (18, 0, 0, 0)) rfl rfl (k' := 7) (lo' := [(2, .int r), (0, .int x), (1, .int y)]) (st' := [.int (x ^^^ y)]) (h' := h) rfl ?_
  have hs := zxor_sign x y (by omega)
  have last : 0 ≤ r.toInt → z_ok sx d 312 14 [(2, .int r), (0, .int x), (1, .int y)] [] h (zPo z_tt Ex (312, [zFull, (0, n, n)], [(0, 0, n - 1)], [], [], 0, (0, 0, 0, 0), []) ty h) := fun r0 => by
    refine zh zJ_312 (i := (1, 2, 0, 0)) rfl rfl (k' := 15) (lo' := [(2, .int r), (0, .int x), (1, .int y)]) (st' := [.int r]) (h' := h) rfl ?_
    refine zh_iret zJ_312 (a := 0) (b := 0) (z := 0) rfl (Or.inl rfl) (hend r r0 ?_)
    have := Int.tmod_lt_of_pos x.toInt (b := y.toInt) (by omega)
    omega
  refine zh_if zJ_312 (a := 14) (b := 3) (z := 0) rfl (fun hc => last ?_) (fun hc => ?_)
  · have hx0 := hs.mp (zcmp_ge.mp hc)
    rw [hr]
    exact Int.tmod_nonneg _ hx0
  · have hx0 : x.toInt < 0 := by
      have : ¬ 0 ≤ (x ^^^ y).toInt := fun q => hc (zcmp_ge.mpr q)
      rw [hs] at this
      omega
    refine zh zJ_312 (i := (1, 2, 0, 0)) rfl rfl (k' := 9) (lo' := [(2, .int r), (0, .int x), (1, .int y)]) (st' := [.int r]) (h' := h) rfl ?_
    have hle : r.toInt ≤ 0 := by
      rw [hr, show x.toInt = -(-x.toInt) by omega, Int.neg_tmod]
      have := Int.tmod_nonneg (a := -x.toInt) y.toInt (by omega)
      omega
    have hgt : -n < r.toInt := by
      rw [hr, show x.toInt = -(-x.toInt) by omega, Int.neg_tmod]
      have := Int.tmod_lt_of_pos (-x.toInt) (b := y.toInt) (by omega)
      omega
    refine zh_if zJ_312 (a := 14) (b := 0) (z := 0) rfl (fun hc2 => last ?_) (fun hc2 => ?_)
    · have := zcmp_eq.mp hc2
      rw [show (0 : Int32).toInt = 0 from rfl] at this
      omega
    · have hne : r.toInt ≠ 0 := fun q => hc2 (zcmp_eq.mpr q)
      refine zh zJ_312 (i := (1, 2, 0, 0)) rfl rfl (k' := 11) (lo' := [(2, .int r), (0, .int x), (1, .int y)]) (st' := [.int r]) (h' := h) rfl ?_
      refine zh zJ_312 (i := (1, 1, 0, 0)) rfl rfl (k' := 12) (lo' := [(2, .int r), (0, .int x), (1, .int y)]) (st' := [.int y, .int r]) (h' := h) rfl ?_
      refine zh zJ_312 (i := (8, 0, 0, 0)) rfl rfl (k' := 13) (lo' := [(2, .int r), (0, .int x), (1, .int y)]) (st' := [.int (r + y)]) (h' := h) rfl ?_
      have e : (r + y).toInt = r.toInt + y.toInt := by rw [Int32.toInt_add]; exact z_bm (by omega) (by omega)
      exact zh_iret zJ_312 (a := 0) (b := 0) (z := 0) rfl (Or.inl rfl) (hend _ (by omega) (by omega))
