/-! isWord by hand; printed with wip/gen/gen_word.py -/
section ZHW
variable {sx : zX} {d j k : Nat} {lo : zL} {st : List Value} {h : zH} {Ψ : zO → zH → Nat → Nat → Prop} {M : zMi} {cs : List zI} {hs : List zHd}
theorem zh_slen {a b t k' i : Nat} {z : Int} {q : String × Nat × String × List Int32} (J : zJ3 j M cs hs) (hi : cs[k]? = some (59, a, b, z)) (hk : k + 1 = k') (hd : 6 ≤ d) (hc : z_cat st ≤ 8) (hq : z_strs[t]? = some q) (hB : i = zB + t) (kk : z_ok sx d j k' lo (.int (Int32.ofNat q.2.2.2.length) :: st) h Ψ) : z_ok sx d j k lo (.ref i :: st) h Ψ := by
  have e1 : zB ≤ i ∧ i - zB = t := by rw [hB]; exact zadd_sub zB t
  have e2 : z_strs[i - zB]? = some q := by rw [e1.2]; exact hq
  have e3 : z_ops.getD (59, a, b, z).1 z_no = zo_slength := rfl
  rw [← hk] at kk
  have e4 := zo_slength_at (sx := sx) (d := d) (a := a) (b := b) (c := z) (k := k) (lo := lo) (h := h) ⟨e1.1, hd, hc⟩ e2 rfl
  exact zh J hi rfl ((congrFun (congrFun (congrFun (congrFun (congrFun (congrFun (congrFun (congrFun (congrFun e3 sx) d) a) b) z) k) lo) _) h).trans e4) kk
theorem zh_schar {a b t k' i : Nat} {z : Int} {x : Int32} {q : String × Nat × String × List Int32} (J : zJ3 j M cs hs) (hi : cs[k]? = some (60, a, b, z)) (hk : k + 1 = k') (hd : 6 ≤ d) (hc : z_cat st ≤ 8) (hq : z_strs[t]? = some q) (hB : i = zB + t) (h1 : 0 ≤ x.toInt) (h2 : x.toInt < (q.2.2.2.length : Int)) (kk : z_ok sx d j k' lo (.int ((q.2.2.2.getD x.toNatClampNeg 0) &&& 255) :: st) h Ψ) : z_ok sx d j k lo (.int x :: .ref i :: st) h Ψ := by
  have e1 : zB ≤ i ∧ i - zB = t := by rw [hB]; exact zadd_sub zB t
  have e2 : z_strs[i - zB]? = some q := by rw [e1.2]; exact hq
  have e3 : z_ops.getD (60, a, b, z).1 z_no = zo_scharAt := rfl
  rw [← hk] at kk
  have e4 := zo_scharAt_at (sx := sx) (d := d) (a := a) (b := b) (c := z) (k := k) (lo := lo) (h := h) ⟨e1.1, hd, hc⟩ e2 (z_inn h1 h2).1 rfl
  exact zh J hi rfl ((congrFun (congrFun (congrFun (congrFun (congrFun (congrFun (congrFun (congrFun (congrFun e3 sx) d) a) b) z) k) lo) _) h).trans e4) kk
end ZHW
theorem zofNat {n : Nat} (h : n ≤ 1000) : (Int32.ofNat n).toInt = (n : Int) := Int32.toInt_ofNat_of_lt (by omega)
theorem zJ_204 : zJ3 204 z_m204 z_c204 z_h204 := ⟨rfl, rfl, rfl⟩
set_option maxRecDepth 100000 in
theorem zLp_204 {sx : zX} {d t a w : Nat} {Ψ : zO → zH → Nat → Nat → Prop} {q : String × Nat × String × List Int32} {h : zH} {gs : List Value} {f : Nat → Int32} {b : Int32} (hd : 8 ≤ d) (hq : z_strs[t]? = some q) (hn : q.2.2.2.length ≤ 100) (he : h[a]? = some (.inr (9, gs))) (hg8 : gs[8]? = some (.ref w)) (hg12 : gs[12]? = some (.int b)) (hb1 : 0 ≤ b.toInt) (hb2 : b.toInt ≤ 400) (hf : h[w]? = some (.inl (1, (400, .inl f)))) (kk : ∀ c : Int32, (c = 0 ∨ c = 1) → Ψ (.inl (some (.int c))) h 0 0) : ∀ (r i : Nat) (x c : Int32), i + r = q.2.2.2.length → x.toInt = (i : Int) → (c = 0 ∨ (c = 1 ∧ b.toInt + (q.2.2.2.length : Int) ≤ 400)) → z_ok sx d 204 14 [(3, .int x), (2, .int c), (0, .ref a), (1, .ref (zB + t))] [] h Ψ
  | r, i, x, c, hr, hx, hc0 => by
    have ih : ∀ (i' : Nat) (x' c' : Int32), i' + (r - 1) = q.2.2.2.length → x'.toInt = (i' : Int) → (c' = 0 ∨ (c' = 1 ∧ b.toInt + (q.2.2.2.length : Int) ≤ 400)) → 0 < r → z_ok sx d 204 14 [(3, .int x'), (2, .int c'), (0, .ref a), (1, .ref (zB + t))] [] h Ψ := fun i' x' c' h1 h2 h3 h4 => by
      cases r with
      | zero => omega
      | succ r => exact zLp_204 hd hq hn he hg8 hg12 hb1 hb2 hf kk r i' x' c' h1 h2 h3
    have hcc : c = 0 ∨ c = 1 := hc0.imp id (fun q => q.1)
    refine zh zJ_204 (i := (1, 2, 0, 0)) rfl rfl (k' := 15) (lo' := [(3, .int x), (2, .int c), (0, .ref a), (1, .ref (zB + t))]) (st' := [.int c]) (h' := h) rfl ?_
    refine zh_if zJ_204 (a := 37) (b := 0) (z := 0) rfl (fun hc => ?_) (fun hc => ?_)
    · refine zh zJ_204 (i := (1, 2, 0, 0)) rfl rfl (k' := 38) (lo' := [(3, .int x), (2, .int c), (0, .ref a), (1, .ref (zB + t))]) (st' := [.int c]) (h' := h) rfl ?_
      refine zh_iret zJ_204 (a := 0) (b := 0) (z := 0) rfl (Or.inr ⟨rfl, hcc⟩) ?_
      exact kk c hcc
    · have hc1 : c = 1 ∧ b.toInt + (q.2.2.2.length : Int) ≤ 400 := hc0.resolve_left (fun e => hc (by rw [e]; exact zcmp_eq.mpr rfl))
      refine zh zJ_204 (i := (1, 3, 0, 0)) rfl rfl (k' := 17) (lo' := [(3, .int x), (2, .int c), (0, .ref a), (1, .ref (zB + t))]) (st' := [.int x]) (h' := h) rfl ?_
      refine zh zJ_204 (i := (2, 1, 0, 0)) rfl rfl (k' := 18) (lo' := [(3, .int x), (2, .int c), (0, .ref a), (1, .ref (zB + t))]) (st' := [.ref (zB + t), .int x]) (h' := h) rfl ?_
      refine zh_slen zJ_204 (a := 0) (b := 0) (z := 0) rfl (k' := 19) rfl (by omega) (Nat.le_of_ble_eq_true rfl) hq rfl ?_
      refine zh_icmp zJ_204 (a := 37) (b := 3) (z := 0) rfl (fun hc => ?_) (fun hc => ?_)
      · refine zh zJ_204 (i := (1, 2, 0, 0)) rfl rfl (k' := 38) (lo' := [(3, .int x), (2, .int c), (0, .ref a), (1, .ref (zB + t))]) (st' := [.int c]) (h' := h) rfl ?_
        refine zh_iret zJ_204 (a := 0) (b := 0) (z := 0) rfl (Or.inr ⟨rfl, hcc⟩) ?_
        exact kk c hcc
      · have hlt : x.toInt < (q.2.2.2.length : Int) := by
          have : ¬ (Int32.ofNat q.2.2.2.length).toInt ≤ x.toInt := fun e => hc (zcmp_ge.mpr e)
          rw [zofNat (by omega)] at this
          omega
        have hix : (b + x).toInt = b.toInt + x.toInt := by
          rw [Int32.toInt_add]
          exact z_bm (by omega) (by omega)
        refine zh zJ_204 (i := (2, 0, 0, 0)) rfl rfl (k' := 21) (lo' := [(3, .int x), (2, .int c), (0, .ref a), (1, .ref (zB + t))]) (st' := [.ref a]) (h' := h) rfl ?_
        refine zh_get zJ_204 (a := a) (b := 8) (c := 9) (z := 0) rfl (k' := 22) rfl he hg8 ?_
        refine zh zJ_204 (i := (2, 0, 0, 0)) rfl rfl (k' := 23) (lo' := [(3, .int x), (2, .int c), (0, .ref a), (1, .ref (zB + t))]) (st' := [.ref a, .ref w]) (h' := h) rfl ?_
        refine zh_get zJ_204 (a := a) (b := 12) (c := 9) (z := 0) rfl (k' := 24) rfl he hg12 ?_
        refine zh zJ_204 (i := (1, 3, 0, 0)) rfl rfl (k' := 25) (lo' := [(3, .int x), (2, .int c), (0, .ref a), (1, .ref (zB + t))]) (st' := [.int x, .int b, .ref w]) (h' := h) rfl ?_
        refine zh zJ_204 (i := (8, 0, 0, 0)) rfl rfl (k' := 26) (lo' := [(3, .int x), (2, .int c), (0, .ref a), (1, .ref (zB + t))]) (st' := [.int (b + x), .ref w]) (h' := h) rfl ?_
        refine zh_bald zJ_204 (z := 0) rfl (k' := 27) rfl hf (by omega) (by omega) ?_
        refine zh zJ_204 (i := (2, 1, 0, 0)) rfl rfl (k' := 28) (lo' := [(3, .int x), (2, .int c), (0, .ref a), (1, .ref (zB + t))]) (st' := [.ref (zB + t), .int (f (b + x).toNatClampNeg)]) (h' := h) rfl ?_
        refine zh zJ_204 (i := (1, 3, 0, 0)) rfl rfl (k' := 29) (lo' := [(3, .int x), (2, .int c), (0, .ref a), (1, .ref (zB + t))]) (st' := [.int x, .ref (zB + t), .int (f (b + x).toNatClampNeg)]) (h' := h) rfl ?_
        refine zh_schar zJ_204 (a := 0) (b := 0) (z := 0) rfl (k' := 30) rfl (by omega) (Nat.le_of_ble_eq_true rfl) hq rfl (by omega) hlt ?_
        refine zh_icmp zJ_204 (a := 33) (b := 1) (z := 0) rfl (fun hc => ?_) (fun hc => ?_)
        · refine zh zJ_204 (i := (0, 0, 0, 0)) rfl rfl (k' := 34) (lo' := [(3, .int x), (2, .int c), (0, .ref a), (1, .ref (zB + t))]) (st' := [.int (Int32.ofInt (0))]) (h' := h) rfl ?_
          refine zh zJ_204 (i := (4, 2, 0, 0)) rfl rfl (k' := 35) (lo' := [(2, .int (Int32.ofInt (0))), (3, .int x), (0, .ref a), (1, .ref (zB + t))]) (st' := []) (h' := h) rfl ?_
          refine zh zJ_204 (i := (7, 3, 0, 1)) rfl rfl (k' := 36) (lo' := [(3, .int (x + Int32.ofInt (1))), (2, .int (Int32.ofInt (0))), (0, .ref a), (1, .ref (zB + t))]) (st' := []) (h' := h) rfl ?_
          refine zh zJ_204 (i := (30, 14, 0, 0)) rfl rfl (k' := 14) (lo' := [(3, .int (x + Int32.ofInt (1))), (2, .int (Int32.ofInt (0))), (0, .ref a), (1, .ref (zB + t))]) (st' := []) (h' := h) rfl ?_
          exact ih (i + 1) _ _ (by omega) (zinc hx (by omega)) (Or.inl rfl) (by omega)
        · refine zh zJ_204 (i := (0, 0, 0, 1)) rfl rfl (k' := 32) (lo' := [(3, .int x), (2, .int c), (0, .ref a), (1, .ref (zB + t))]) (st' := [.int (Int32.ofInt (1))]) (h' := h) rfl ?_
          refine zh zJ_204 (i := (30, 34, 0, 0)) rfl rfl (k' := 34) (lo' := [(3, .int x), (2, .int c), (0, .ref a), (1, .ref (zB + t))]) (st' := [.int (Int32.ofInt (1))]) (h' := h) rfl ?_
          refine zh zJ_204 (i := (4, 2, 0, 0)) rfl rfl (k' := 35) (lo' := [(2, .int (Int32.ofInt (1))), (3, .int x), (0, .ref a), (1, .ref (zB + t))]) (st' := []) (h' := h) rfl ?_
          refine zh zJ_204 (i := (7, 3, 0, 1)) rfl rfl (k' := 36) (lo' := [(3, .int (x + Int32.ofInt (1))), (2, .int (Int32.ofInt (1))), (0, .ref a), (1, .ref (zB + t))]) (st' := []) (h' := h) rfl ?_
          refine zh zJ_204 (i := (30, 14, 0, 0)) rfl rfl (k' := 14) (lo' := [(3, .int (x + Int32.ofInt (1))), (2, .int (Int32.ofInt (1))), (0, .ref a), (1, .ref (zB + t))]) (st' := []) (h' := h) rfl ?_
          exact ih (i + 1) _ _ (by omega) (zinc hx (by omega)) (Or.inr ⟨rfl, hc1.2⟩) (by omega)
set_option maxRecDepth 100000 in
theorem zV_iw (t : Nat) (q : String × Nat × String × List Int32) (hq : z_strs[t]? = some q) (hn : q.2.2.2.length ≤ 100) : zVd z_tt zE1 (204, [(2, 20, 20), (5, (t : Int), (t : Int))], [(0, 0, 1)], [], [], 8, (0, 0, 0, 0), []) := by
  intro sx d ty h as hd T E hA
  match as, hA with
  | [va, vt], hA =>
  obtain ⟨a, u, rfl, ha, t1, t2⟩ := hA.1
  have et : u = 20 := by omega
  subst et
  have hvt : vt = .ref (zB + t) := hA.2.1
  subst hvt
  show z_ok sx d 204 0 [(0, .ref a), (1, .ref (zB + t))] [] h _
  have hd : 8 ≤ d := hd
  obtain ⟨fs, he, hl⟩ := zcell0 (c := 9) (n := 23) T ha rfl rfl rfl
  obtain ⟨e, hg10, e1, e2⟩ := zfd0 (b := 10) (lo := 0) (hi := 400) T ha he (by omega) (by decide +kernel)
  obtain ⟨b, hg12, b1, b2⟩ := zfd0 (b := 12) (lo := 0) (hi := 400) T ha he (by omega) (by decide +kernel)
  obtain ⟨w, hg8, hw⟩ := zfd2 (b := 8) (u := 26) T ha he (by omega) (by decide +kernel)
  obtain ⟨f, hf⟩ := zcell2 (n := 400) T hw rfl rfl
  have kk : ∀ c : Int32, (c = 0 ∨ c = 1) → zPo z_tt zE1 (204, [(2, 20, 20), (5, (t : Int), (t : Int))], [(0, 0, 1)], [], [], 8, (0, 0, 0, 0), []) ty h (.inl (some (.int c))) h 0 0 := fun c hc => ⟨ty, zExt.rf, T, E, zFm.rf, ⟨c, rfl, by rcases hc with rfl | rfl <;> decide, by rcases hc with rfl | rfl <;> decide⟩, Nat.le_refl _, Nat.le_refl _⟩
  have hsub : (e - b).toInt = e.toInt - b.toInt := by
    rw [Int32.toInt_sub]
    exact z_bm (by omega) (by omega)
  refine zh zJ_204 (i := (2, 0, 0, 0)) rfl rfl (k' := 1) (lo' := [(0, .ref a), (1, .ref (zB + t))]) (st' := [.ref a]) (h' := h) rfl ?_
  refine zh_get zJ_204 (a := a) (b := 10) (c := 9) (z := 0) rfl (k' := 2) rfl he hg10 ?_
  refine zh zJ_204 (i := (2, 0, 0, 0)) rfl rfl (k' := 3) (lo' := [(0, .ref a), (1, .ref (zB + t))]) (st' := [.ref a, .int e]) (h' := h) rfl ?_
  refine zh_get zJ_204 (a := a) (b := 12) (c := 9) (z := 0) rfl (k' := 4) rfl he hg12 ?_
  refine zh zJ_204 (i := (9, 0, 0, 0)) rfl rfl (k' := 5) (lo' := [(0, .ref a), (1, .ref (zB + t))]) (st' := [.int (e - b)]) (h' := h) rfl ?_
  refine zh zJ_204 (i := (2, 1, 0, 0)) rfl rfl (k' := 6) (lo' := [(0, .ref a), (1, .ref (zB + t))]) (st' := [.ref (zB + t), .int (e - b)]) (h' := h) rfl ?_
  refine zh_slen zJ_204 (a := 0) (b := 0) (z := 0) rfl (k' := 7) rfl (by omega) (Nat.le_of_ble_eq_true rfl) hq rfl ?_
  refine zh_icmp zJ_204 (a := 10) (b := 1) (z := 0) rfl (fun hc => ?_) (fun hc => ?_)
  · refine zh zJ_204 (i := (0, 0, 0, 0)) rfl rfl (k' := 11) (lo' := [(0, .ref a), (1, .ref (zB + t))]) (st' := [.int (Int32.ofInt (0))]) (h' := h) rfl ?_
    refine zh zJ_204 (i := (4, 2, 0, 0)) rfl rfl (k' := 12) (lo' := [(2, .int (Int32.ofInt (0))), (0, .ref a), (1, .ref (zB + t))]) (st' := []) (h' := h) rfl ?_
    refine zh zJ_204 (i := (0, 0, 0, 0)) rfl rfl (k' := 13) (lo' := [(2, .int (Int32.ofInt (0))), (0, .ref a), (1, .ref (zB + t))]) (st' := [.int (Int32.ofInt (0))]) (h' := h) rfl ?_
    refine zh zJ_204 (i := (4, 3, 0, 0)) rfl rfl (k' := 14) (lo' := [(3, .int (Int32.ofInt (0))), (2, .int (Int32.ofInt (0))), (0, .ref a), (1, .ref (zB + t))]) (st' := []) (h' := h) rfl ?_
    exact zLp_204 hd hq hn he hg8 hg12 b1 b2 hf kk _ 0 _ _ (Nat.zero_add _) rfl (Or.inl rfl)
  · refine zh zJ_204 (i := (0, 0, 0, 1)) rfl rfl (k' := 9) (lo' := [(0, .ref a), (1, .ref (zB + t))]) (st' := [.int (Int32.ofInt (1))]) (h' := h) rfl ?_
    refine zh zJ_204 (i := (30, 11, 0, 0)) rfl rfl (k' := 11) (lo' := [(0, .ref a), (1, .ref (zB + t))]) (st' := [.int (Int32.ofInt (1))]) (h' := h) rfl ?_
    refine zh zJ_204 (i := (4, 2, 0, 0)) rfl rfl (k' := 12) (lo' := [(2, .int (Int32.ofInt (1))), (0, .ref a), (1, .ref (zB + t))]) (st' := []) (h' := h) rfl ?_
    refine zh zJ_204 (i := (0, 0, 0, 0)) rfl rfl (k' := 13) (lo' := [(2, .int (Int32.ofInt (1))), (0, .ref a), (1, .ref (zB + t))]) (st' := [.int (Int32.ofInt (0))]) (h' := h) rfl ?_
    refine zh zJ_204 (i := (4, 3, 0, 0)) rfl rfl (k' := 14) (lo' := [(3, .int (Int32.ofInt (0))), (2, .int (Int32.ofInt (1))), (0, .ref a), (1, .ref (zB + t))]) (st' := []) (h' := h) rfl ?_
    refine zLp_204 hd hq hn he hg8 hg12 b1 b2 hf kk _ 0 _ _ (Nat.zero_add _) rfl (Or.inr ⟨rfl, ?_⟩)
    by_cases hh : (e - b).toInt = (Int32.ofNat q.2.2.2.length).toInt
    · rw [hsub, zofNat (by omega)] at hh
      omega
    · exact absurd (zcmp_ne.mpr hh) hc
theorem zV_0 : zVd z_tt zE1 zC0 := zV_iw 42 _ rfl (by decide)
theorem zV_1 : zVd z_tt zE1 zC1 := zV_iw 43 _ rfl (by decide)
theorem zV_2 : zVd z_tt zE1 zC2 := zV_iw 44 _ rfl (by decide)
theorem zV_3 : zVd z_tt zE1 zC3 := zV_iw 45 _ rfl (by decide)
theorem zV_4 : zVd z_tt zE1 zC4 := zV_iw 46 _ rfl (by decide)
theorem zV_5 : zVd z_tt zE1 zC5 := zV_iw 47 _ rfl (by decide)
theorem zV_6 : zVd z_tt zE1 zC6 := zV_iw 48 _ rfl (by decide)
theorem zV_7 : zVd z_tt zE1 zC7 := zV_iw 49 _ rfl (by decide)
theorem zV_8 : zVd z_tt zE1 zC8 := zV_iw 50 _ rfl (by decide)
theorem zV_9 : zVd z_tt zE1 zC9 := zV_iw 51 _ rfl (by decide)
theorem zV_10 : zVd z_tt zE1 zC10 := zV_iw 52 _ rfl (by decide)
theorem zV_11 : zVd z_tt zE1 zC11 := zV_iw 53 _ rfl (by decide)
theorem zV_12 : zVd z_tt zE1 zC12 := zV_iw 54 _ rfl (by decide)
theorem zV_13 : zVd z_tt zE1 zC13 := zV_iw 55 _ rfl (by decide)
theorem zV_14 : zVd z_tt zE1 zC14 := zV_iw 56 _ rfl (by decide)
theorem zV_15 : zVd z_tt zE1 zC15 := zV_iw 57 _ rfl (by decide)
theorem zV_16 : zVd z_tt zE1 zC16 := zV_iw 58 _ rfl (by decide)
theorem zV_17 : zVd z_tt zE1 zC17 := zV_iw 59 _ rfl (by decide)
theorem zV_18 : zVd z_tt zE1 zC18 := zV_iw 60 _ rfl (by decide)
theorem zV_19 : zVd z_tt zE1 zC19 := zV_iw 61 _ rfl (by decide)
theorem zV_20 : zVd z_tt zE1 zC20 := zV_iw 62 _ rfl (by decide)
theorem zV_21 : zVd z_tt zE1 zC21 := zV_iw 63 _ rfl (by decide)
theorem zV_22 : zVd z_tt zE1 zC22 := zV_iw 64 _ rfl (by decide)
theorem zV_23 : zVd z_tt zE1 zC23 := zV_iw 65 _ rfl (by decide)
theorem zV_24 : zVd z_tt zE1 zC24 := zV_iw 66 _ rfl (by decide)
theorem zV_25 : zVd z_tt zE1 zC25 := zV_iw 67 _ rfl (by decide)
theorem zV_26 : zVd z_tt zE1 zC26 := zV_fm zE1 24 (by decide) (by decide)
theorem zV_27 : zVd z_tt zE1 zC27 := zV_fm zE1 60 (by decide) (by decide)
