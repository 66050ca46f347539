/-! holdsLine and sumOf of the reference; printed with wip/gen/gen_sum.py -/
set_option maxRecDepth 100000 in
theorem zR_237 {sx : zX} {d a w : Nat} {ty : List Nat} {h : zH} {fw : Nat → Int32} {xl xf xh : Int32} (hd : 20 ≤ d) (H : ∀ c, c < 239 → ∀ c', zCtl[c]? = some c' → zVd z_tt zE1 c') (T : zTY z_tt ty h) (E : zE1 ty h) (ha : ty[a]? = some 20) (hw2 : ty[w]? = some 21) (hf : h[w]? = some (.inl (0, (2086, .inl fw)))) (l1 : 0 ≤ xl.toInt) (l2 : xl.toInt < (fw 388).toInt) (f1 : -1 ≤ xf.toInt) (f2 : xf.toInt ≤ 9) : z_ok sx d 237 0 [(0, .ref a), (1, .int xl), (2, .int xf), (3, .int xh)] [] h (zPo z_tt zE1 zC_H ty h) := by
  obtain ⟨hL1, hL⟩ := E.2 w 21 2086 fw hw2 (Or.inl rfl) hf
  obtain ⟨hL2, hL3⟩ := hL xl.toInt.toNat (by omega)
  obtain ⟨fs, he, hl⟩ := zcell0 (c := 9) (n := 23) T ha rfl rfl rfl
  obtain ⟨w', hw1, hw3⟩ := zfd2 (b := 1) (u := 21) T ha he (by omega) (by decide +kernel)
  have ew : w' = w := E.1 w' w 21 (by omega) (by omega) hw3 hw2
  subst ew
  refine zh zJ_237 (i := (0, 0, 0, 0)) rfl rfl (k' := 1) (lo' := [(0, .ref a), (1, .int xl), (2, .int xf), (3, .int xh)]) (st' := [.int (Int32.ofInt (0))]) (h' := h) rfl ?_
  refine zh zJ_237 (i := (4, 4, 0, 0)) rfl rfl (k' := 2) (lo' := [(4, .int (Int32.ofInt (0))), (0, .ref a), (1, .int xl), (2, .int xf), (3, .int xh)]) (st' := []) (h' := h) rfl ?_
  refine zh zJ_237 (i := (0, 0, 0, 389)) rfl rfl (k' := 3) (lo' := [(4, .int (Int32.ofInt (0))), (0, .ref a), (1, .int xl), (2, .int xf), (3, .int xh)]) (st' := [.int (Int32.ofInt (389))]) (h' := h) rfl ?_
  refine zh zJ_237 (i := (0, 0, 0, 4)) rfl rfl (k' := 4) (lo' := [(4, .int (Int32.ofInt (0))), (0, .ref a), (1, .int xl), (2, .int xf), (3, .int xh)]) (st' := [.int (Int32.ofInt (4)), .int (Int32.ofInt (389))]) (h' := h) rfl ?_
  refine zh zJ_237 (i := (1, 1, 0, 0)) rfl rfl (k' := 5) (lo' := [(4, .int (Int32.ofInt (0))), (0, .ref a), (1, .int xl), (2, .int xf), (3, .int xh)]) (st' := [.int xl, .int (Int32.ofInt (4)), .int (Int32.ofInt (389))]) (h' := h) rfl ?_
  refine zh zJ_237 (i := (10, 0, 0, 0)) rfl rfl (k' := 6) (lo' := [(4, .int (Int32.ofInt (0))), (0, .ref a), (1, .int xl), (2, .int xf), (3, .int xh)]) (st' := [.int ((Int32.ofInt (4)) * xl), .int (Int32.ofInt (389))]) (h' := h) rfl ?_
  refine zh zJ_237 (i := (8, 0, 0, 0)) rfl rfl (k' := 7) (lo' := [(4, .int (Int32.ofInt (0))), (0, .ref a), (1, .int xl), (2, .int xf), (3, .int xh)]) (st' := [.int ((Int32.ofInt (389)) + ((Int32.ofInt (4)) * xl))]) (h' := h) rfl ?_
  refine zh zJ_237 (i := (4, 5, 0, 0)) rfl rfl (k' := 8) (lo' := [(5, .int ((Int32.ofInt (389)) + ((Int32.ofInt (4)) * xl))), (4, .int (Int32.ofInt (0))), (0, .ref a), (1, .int xl), (2, .int xf), (3, .int xh)]) (st' := []) (h' := h) rfl ?_
  refine zh zJ_237 (i := (2, 0, 0, 0)) rfl rfl (k' := 9) (lo' := [(5, .int ((Int32.ofInt (389)) + ((Int32.ofInt (4)) * xl))), (4, .int (Int32.ofInt (0))), (0, .ref a), (1, .int xl), (2, .int xf), (3, .int xh)]) (st' := [.ref a]) (h' := h) rfl ?_
  have e4 : (Int32.ofInt (4) * xl).toInt = 4 * xl.toInt := by
    rw [Int32.toInt_mul, show (Int32.ofInt (4)).toInt = 4 from rfl]
    exact z_bm (by omega) (by omega)
  have e5 : (Int32.ofInt (389) + Int32.ofInt (4) * xl).toInt = ((389 + 4 * xl.toInt.toNat : Nat) : Int) := by
    rw [Int32.toInt_add, e4, show (Int32.ofInt (389)).toInt = 389 from rfl, z_bm (by omega) (by omega)]
    omega
  have e6 : (Int32.ofInt (389) + Int32.ofInt (4) * xl + Int32.ofInt (2)).toInt = ((391 + 4 * xl.toInt.toNat : Nat) : Int) := by
    rw [Int32.toInt_add, e5, show (Int32.ofInt (2)).toInt = 2 from rfl, z_bm (by omega) (by omega)]
    omega
  refine zh_get zJ_237 (a := a) (b := 1) (c := 9) (z := 0) rfl (k' := 10) rfl he hw1 ?_
  refine zh zJ_237 (i := (1, 5, 0, 0)) rfl rfl (k' := 11) (lo' := [(5, .int ((Int32.ofInt (389)) + ((Int32.ofInt (4)) * xl))), (4, .int (Int32.ofInt (0))), (0, .ref a), (1, .int xl), (2, .int xf), (3, .int xh)]) (st' := [.int ((Int32.ofInt (389)) + ((Int32.ofInt (4)) * xl)), .ref w']) (h' := h) rfl ?_
  refine zh zJ_237 (i := (0, 0, 0, 2)) rfl rfl (k' := 12) (lo' := [(5, .int ((Int32.ofInt (389)) + ((Int32.ofInt (4)) * xl))), (4, .int (Int32.ofInt (0))), (0, .ref a), (1, .int xl), (2, .int xf), (3, .int xh)]) (st' := [.int (Int32.ofInt (2)), .int ((Int32.ofInt (389)) + ((Int32.ofInt (4)) * xl)), .ref w']) (h' := h) rfl ?_
  refine zh zJ_237 (i := (8, 0, 0, 0)) rfl rfl (k' := 13) (lo' := [(5, .int ((Int32.ofInt (389)) + ((Int32.ofInt (4)) * xl))), (4, .int (Int32.ofInt (0))), (0, .ref a), (1, .int xl), (2, .int xf), (3, .int xh)]) (st' := [.int (((Int32.ofInt (389)) + ((Int32.ofInt (4)) * xl)) + (Int32.ofInt (2))), .ref w']) (h' := h) rfl ?_
  refine zh_iald zJ_237 (z := 0) rfl (k' := 14) rfl hf (by omega) (by omega) ?_
  rw [znat e6]
  refine zh zJ_237 (i := (4, 6, 0, 0)) rfl rfl (k' := 15) (lo' := [(6, .int (fw (391 + 4 * xl.toInt.toNat))), (5, .int ((Int32.ofInt (389)) + ((Int32.ofInt (4)) * xl))), (4, .int (Int32.ofInt (0))), (0, .ref a), (1, .int xl), (2, .int xf), (3, .int xh)]) (st' := []) (h' := h) rfl ?_
  have hgo := zLp_H (sx := sx) (d0 := d) (ty0 := ty) (h0 := h) (w := w') (l := xl.toInt.toNat) (fw := fw) hd H hw3 hf (by omega) _ ty [(6, .int (fw (391 + 4 * xl.toInt.toNat))), (5, .int ((Int32.ofInt (389)) + ((Int32.ofInt (4)) * xl))), (4, .int (Int32.ofInt (0))), (0, .ref a), (1, .int xl), (2, .int xf), (3, .int xh)] h a (fw (391 + 4 * xl.toInt.toNat)).toInt.toNat 0 xl xf xh _ _ _ zExt.rf T E zFm.rf rfl ha rfl ⟨l1, by omega⟩ rfl ⟨f1, f2⟩ rfl rfl rfl (by omega) rfl e5 rfl (by omega) rfl (by
    have e9 : (((fw (391 + 4 * xl.toInt.toNat)).toInt.toNat : Nat) : Int) = (fw (391 + 4 * xl.toInt.toNat)).toInt := by omega
    rw [e9]
    exact hL3)
  refine z_ok.imp hgo (fun o h' x y q => ?_)
  have q : zPo z_tt zE1 zC_H ty h o h' (x + 0) (y + 0) := q
  exact q
