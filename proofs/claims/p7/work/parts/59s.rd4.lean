/-! the reference's reader: lines of a law; printed with wip/gen/gen_rd4.py -/
theorem zupd_at {f : Nat → Int32} {i : Nat} {x : Int32} : upd f i x i = x := if_pos rfl
theorem zupd_ne {f : Nat → Int32} {i j : Nat} {x : Int32} (h : j ≠ i) : upd f i x j = f j := if_neg h
theorem zPs_cg {g g' : Nat → Int32} : ∀ {n i t t' : Nat}, (∀ k, 1286 ≤ k → k < 1286 + 2 * (i + n) → g' k = g k) → zPs g n i t t' → zPs g' n i t t'
  | 0, _, _, _, _, h => h
  | n + 1, i, t, t', hc, h => by
    obtain ⟨a1, a2⟩ := h
    refine ⟨a1, ?_⟩
    have hc' : ∀ k, 1286 ≤ k → k < 1286 + 2 * (i + 1 + n) → g' k = g k := fun k h1 hk => hc k h1 (by omega)
    rw [hc (1286 + 2 * i) (by omega) (by omega)]
    split
    · next h3 => rw [if_pos h3] at a2; exact ⟨a2.1, zPs_cg hc' a2.2⟩
    · next h3 =>
      rw [if_neg h3] at a2
      split
      · next h4 => rw [if_pos h4] at a2; exact ⟨a2.1, zPs_cg hc' a2.2⟩
      · next h4 => rw [if_neg h4] at a2; exact ⟨a2.1, zPs_cg hc' a2.2⟩
/-- a line of the draft, its code from s to e -/
noncomputable def zLd (g : Nat → Int32) (l s e : Nat) : Prop := (g (1240 + 4 * l)).toInt = (s : Int) ∧ (g (1241 + 4 * l)).toInt = (e : Int) ∧ s ≤ e ∧ ∃ t', zPs g (e - s) s 0 t'
noncomputable def zLne (N S : Nat) (g : Nat → Int32) (S' : Nat) (g' : Nat → Int32) : Prop := zLd g' N S S' ∧ ∀ k, (k < 1238 + 4 * N ∨ (1286 ≤ k ∧ k < 1286 + 2 * S)) → g' k = g k
noncomputable def zRL (ty : List Nat) (h0 : zH) (a w b E S N : Nat) (g : Nat → Int32) : Option Value → zH → Prop := fun r h' => ∃ (c : Int32) (P' Q' D' S' : Nat) (g' : Nat → Int32), r = some (.int c) ∧ zPS ty h0 a w b E P' Q' D' S' g' h' ∧ (c = 0 ∨ (c = 1 ∧ N ≤ 11 ∧ S' ≤ P' ∧ zLne N S g S' g'))
theorem zJ_228 : zJ3 228 z_m228 z_c228 z_h228 := ⟨rfl, rfl, rfl⟩
set_option maxRecDepth 100000 in
theorem zTl_228 {sx : zX} {ty : List Nat} {h0 : zH} {a w b E : Nat} {D S d : Nat} {g : Nat → Int32} {h : zH} {P1 Q1 S1 N : Nat} {g1 : Nat → Int32} {kv nn : Int32} (ek : kv.toInt = ((1238 + 4 * N : Nat) : Int)) (hN : N ≤ 11) (H : zPS ty h0 a w b E P1 Q1 D S1 g1 h) (hP : S1 ≤ P1) (hz : ∀ v : Int32, v.toInt = (S1 : Int) → zLne N S g S1 (upd g1 (1241 + 4 * N) v)) : z_ok sx d 228 75 [(2, .int kv), (0, .ref a), (1, .int nn)] [] h (zRq (zRL ty h0 a w b E S N g)) := by
  obtain ⟨bE, bP, bQ, bD, bS⟩ := H.bd
  refine zh zJ_228 (i := (2, 0, 0, 0)) rfl rfl (k' := 76) (lo' := [(2, .int kv), (0, .ref a), (1, .int nn)]) (st' := [.ref a]) (h' := h) rfl ?_
  refine zg1 H zJ_228 rfl (k' := 77) rfl ?_
  refine zh zJ_228 (i := (1, 2, 0, 0)) rfl rfl (k' := 78) (lo' := [(2, .int kv), (0, .ref a), (1, .int nn)]) (st' := [.int kv, .ref w]) (h' := h) rfl ?_
  refine zh zJ_228 (i := (0, 0, 0, 3)) rfl rfl (k' := 79) (lo' := [(2, .int kv), (0, .ref a), (1, .int nn)]) (st' := [.int (Int32.ofInt (3)), .int kv, .ref w]) (h' := h) rfl ?_
  refine zh zJ_228 (i := (8, 0, 0, 0)) rfl rfl (k' := 80) (lo' := [(2, .int kv), (0, .ref a), (1, .int nn)]) (st' := [.int (kv + (Int32.ofInt (3))), .ref w]) (h' := h) rfl ?_
  refine zh zJ_228 (i := (2, 0, 0, 0)) rfl rfl (k' := 81) (lo' := [(2, .int kv), (0, .ref a), (1, .int nn)]) (st' := [.ref a, .int (kv + (Int32.ofInt (3))), .ref w]) (h' := h) rfl ?_
  refine zg16 H zJ_228 rfl (k' := 82) rfl (fun x1 ex1 => ?_)
  refine zpw H zJ_228 rfl (k' := 83) rfl (1241 + 4 * N) (by rw [zI_add ek (zI_c (by decide) (by decide)) (by omega) (by omega)]; omega) (by omega) (by omega) (fun h2 Hh2 => ?_)
  refine zh zJ_228 (i := (0, 0, 0, 1)) rfl rfl (k' := 84) (lo' := [(2, .int kv), (0, .ref a), (1, .int nn)]) (st' := [.int (Int32.ofInt (1))]) (h' := h2) rfl ?_
  refine zh_iret zJ_228 (a := 0) (b := 0) (z := 0) rfl (Or.inr ⟨rfl, Or.inr rfl⟩) ?_
  exact ⟨_, rfl, rfl, rfl, _, P1, Q1, D, S1, _, rfl, Hh2, Or.inr ⟨rfl, hN, hP, hz _ ex1⟩⟩
set_option maxRecDepth 100000 in
theorem zTm_228 {sx : zX} {ty : List Nat} {h0 : zH} {a w b E : Nat} {P Q D S d : Nat} {g : Nat → Int32} {h : zH} {N : Nat} {kv nn t : Int32} (hd : 33 ≤ d) (ek : kv.toInt = ((1238 + 4 * N : Nat) : Int)) (hN : N ≤ 11) (hP : S ≤ P) (H : zPS ty h0 a w b E P Q D S g h) : z_ok sx d 228 28 [(2, .int kv), (0, .ref a), (1, .int nn)] [.int t, .int kv, .ref w] h (zRq (zRL ty h0 a w b E S N g)) := by
  obtain ⟨bE, bP, bQ, bD, bS⟩ := H.bd
  refine zpw H zJ_228 rfl (k' := 29) rfl (1238 + 4 * N) ek (by omega) (by omega) (fun h3 Hh3 => ?_)
  refine zh zJ_228 (i := (2, 0, 0, 0)) rfl rfl (k' := 30) (lo' := [(2, .int kv), (0, .ref a), (1, .int nn)]) (st' := [.ref a]) (h' := h3) rfl ?_
  refine zg1 Hh3 zJ_228 rfl (k' := 31) rfl ?_
  refine zh zJ_228 (i := (1, 2, 0, 0)) rfl rfl (k' := 32) (lo' := [(2, .int kv), (0, .ref a), (1, .int nn)]) (st' := [.int kv, .ref w]) (h' := h3) rfl ?_
  refine zlwd Hh3 zJ_228 rfl (k' := 33) rfl (1238 + 4 * N) ek (by omega) ?_
  refine zh_if zJ_228 (a := 36) (b := 3) (z := 0) rfl (fun hc4 => ?_) (fun hc4 => ?_)
  · refine zh zJ_228 (i := (2, 0, 0, 0)) rfl rfl (k' := 37) (lo' := [(2, .int kv), (0, .ref a), (1, .int nn)]) (st' := [.ref a]) (h' := h3) rfl ?_
    refine zg1 Hh3 zJ_228 rfl (k' := 38) rfl ?_
    refine zh zJ_228 (i := (1, 2, 0, 0)) rfl rfl (k' := 39) (lo' := [(2, .int kv), (0, .ref a), (1, .int nn)]) (st' := [.int kv, .ref w]) (h' := h3) rfl ?_
    refine zh zJ_228 (i := (0, 0, 0, 1)) rfl rfl (k' := 40) (lo' := [(2, .int kv), (0, .ref a), (1, .int nn)]) (st' := [.int (Int32.ofInt (1)), .int kv, .ref w]) (h' := h3) rfl ?_
    refine zh zJ_228 (i := (8, 0, 0, 0)) rfl rfl (k' := 41) (lo' := [(2, .int kv), (0, .ref a), (1, .int nn)]) (st' := [.int (kv + (Int32.ofInt (1))), .ref w]) (h' := h3) rfl ?_
    refine zh zJ_228 (i := (2, 0, 0, 0)) rfl rfl (k' := 42) (lo' := [(2, .int kv), (0, .ref a), (1, .int nn)]) (st' := [.ref a, .int (kv + (Int32.ofInt (1))), .ref w]) (h' := h3) rfl ?_
    refine zh zJ_228 (i := (0, 0, 0, 0)) rfl rfl (k' := 43) (lo' := [(2, .int kv), (0, .ref a), (1, .int nn)]) (st' := [.int (Int32.ofInt (0)), .ref a, .int (kv + (Int32.ofInt (1))), .ref w]) (h' := h3) rfl ?_
    refine zh zJ_228 (i := (0, 0, 0, 20)) rfl rfl (k' := 44) (lo' := [(2, .int kv), (0, .ref a), (1, .int nn)]) (st' := [.int (Int32.ofInt (20)), .int (Int32.ofInt (0)), .ref a, .int (kv + (Int32.ofInt (1))), .ref w]) (h' := h3) rfl ?_
    refine zcl (xs := [.int (Int32.ofInt (20)), .int (Int32.ofInt (0))]) (rest := [.int (kv + (Int32.ofInt (1))), .ref w]) Hh3 zJ_228 rfl (k' := 45) rfl (by omega) rfl rfl (Nat.le_of_ble_eq_true rfl) (M' := z_m207) rfl (Nat.le_of_ble_eq_true rfl) (zS_207 (by omega) _ _ Hh3) (fun v h5 q => ?_)
    obtain ⟨c, P2, Q2, rfl, H2, h3, h4⟩ := q
    show z_ok sx d 228 45 [(2, .int kv), (0, .ref a), (1, .int nn)] [.int c, .int (kv + (Int32.ofInt (1))), .ref w] h5 _
    have b2 := H2.bd
    refine zpw H2 zJ_228 rfl (k' := 46) rfl (1239 + 4 * N) (by rw [zI_add ek (zI_c (by decide) (by decide)) (by omega) (by omega)]; omega) (by omega) (by omega) (fun h6 Hh6 => ?_)
    refine zh zJ_228 (i := (2, 0, 0, 0)) rfl rfl (k' := 47) (lo' := [(2, .int kv), (0, .ref a), (1, .int nn)]) (st' := [.ref a]) (h' := h6) rfl ?_
    refine zg1 Hh6 zJ_228 rfl (k' := 48) rfl ?_
    refine zh zJ_228 (i := (1, 2, 0, 0)) rfl rfl (k' := 49) (lo' := [(2, .int kv), (0, .ref a), (1, .int nn)]) (st' := [.int kv, .ref w]) (h' := h6) rfl ?_
    refine zh zJ_228 (i := (0, 0, 0, 1)) rfl rfl (k' := 50) (lo' := [(2, .int kv), (0, .ref a), (1, .int nn)]) (st' := [.int (Int32.ofInt (1)), .int kv, .ref w]) (h' := h6) rfl ?_
    refine zh zJ_228 (i := (8, 0, 0, 0)) rfl rfl (k' := 51) (lo' := [(2, .int kv), (0, .ref a), (1, .int nn)]) (st' := [.int (kv + (Int32.ofInt (1))), .ref w]) (h' := h6) rfl ?_
    refine zlwd Hh6 zJ_228 rfl (k' := 52) rfl (1239 + 4 * N) (by rw [zI_add ek (zI_c (by decide) (by decide)) (by omega) (by omega)]; omega) (by omega) ?_
    rw [zupd_at]
    refine zh_if zJ_228 (a := 55) (b := 3) (z := 0) rfl (fun hc7 => ?_) (fun hc7 => ?_)
    · have h0c : 0 ≤ c.toInt := zcmp_ge.mp hc7
      have hP2 : P + 1 ≤ P2 := h4.resolve_left (by omega)
      refine zh zJ_228 (i := (2, 0, 0, 0)) rfl rfl (k' := 56) (lo' := [(2, .int kv), (0, .ref a), (1, .int nn)]) (st' := [.ref a]) (h' := h6) rfl ?_
      refine zg1 Hh6 zJ_228 rfl (k' := 57) rfl ?_
      refine zh zJ_228 (i := (1, 2, 0, 0)) rfl rfl (k' := 58) (lo' := [(2, .int kv), (0, .ref a), (1, .int nn)]) (st' := [.int kv, .ref w]) (h' := h6) rfl ?_
      refine zh zJ_228 (i := (0, 0, 0, 2)) rfl rfl (k' := 59) (lo' := [(2, .int kv), (0, .ref a), (1, .int nn)]) (st' := [.int (Int32.ofInt (2)), .int kv, .ref w]) (h' := h6) rfl ?_
      refine zh zJ_228 (i := (8, 0, 0, 0)) rfl rfl (k' := 60) (lo' := [(2, .int kv), (0, .ref a), (1, .int nn)]) (st' := [.int (kv + (Int32.ofInt (2))), .ref w]) (h' := h6) rfl ?_
      refine zh zJ_228 (i := (2, 0, 0, 0)) rfl rfl (k' := 61) (lo' := [(2, .int kv), (0, .ref a), (1, .int nn)]) (st' := [.ref a, .int (kv + (Int32.ofInt (2))), .ref w]) (h' := h6) rfl ?_
      refine zg16 Hh6 zJ_228 rfl (k' := 62) rfl (fun x8 ex8 => ?_)
      refine zpw Hh6 zJ_228 rfl (k' := 63) rfl (1240 + 4 * N) (by rw [zI_add ek (zI_c (by decide) (by decide)) (by omega) (by omega)]; omega) (by omega) (by omega) (fun h9 Hh9 => ?_)
      refine zh zJ_228 (i := (2, 0, 0, 0)) rfl rfl (k' := 64) (lo' := [(2, .int kv), (0, .ref a), (1, .int nn)]) (st' := [.ref a]) (h' := h9) rfl ?_
      refine zh zJ_228 (i := (0, 0, 0, 0)) rfl rfl (k' := 65) (lo' := [(2, .int kv), (0, .ref a), (1, .int nn)]) (st' := [.int (Int32.ofInt (0)), .ref a]) (h' := h9) rfl ?_
      refine zp13 Hh9 zJ_228 rfl (k' := 66) rfl (0) rfl (by omega) (fun h10 Hh10 => ?_)
      refine zh zJ_228 (i := (2, 0, 0, 0)) rfl rfl (k' := 67) (lo' := [(2, .int kv), (0, .ref a), (1, .int nn)]) (st' := [.ref a]) (h' := h10) rfl ?_
      refine zldc zJ_228 rfl (k' := 68) rfl (by decide +kernel) ?_
      refine zcl (xs := [.ref (zB + 67)]) (rest := []) Hh10 zJ_228 rfl (k' := 69) rfl (by omega) rfl rfl (Nat.le_of_ble_eq_true rfl) (M' := z_m205) rfl (Nat.le_of_ble_eq_true rfl) (zS_205 (t := 67) (by omega) rfl (by decide) (by decide) Hh10) (fun v h11 q => ?_)
      obtain ⟨c4, P4, Q4, rfl, H4, k1, k2⟩ := q
      show z_ok sx d 228 69 [(2, .int kv), (0, .ref a), (1, .int nn)] [.int c4] h11 _
      refine zh_if zJ_228 (a := 75) (b := 0) (z := 0) rfl (fun hc12 => ?_) (fun hc12 => ?_)
      · exact zTl_228 ek hN H4 (by omega) (fun v hv => ⟨⟨by rw [zupd_ne (by omega), zupd_at]; exact ex8, by rw [zupd_at]; exact hv, Nat.le_refl _, 0, by rw [Nat.sub_self]; rfl⟩, fun k hk => by rw [zupd_ne (by omega), zupd_ne (by omega), zupd_ne (by omega), zupd_ne (by omega)]⟩)
      · refine zh zJ_228 (i := (2, 0, 0, 0)) rfl rfl (k' := 71) (lo' := [(2, .int kv), (0, .ref a), (1, .int nn)]) (st' := [.ref a]) (h' := h11) rfl ?_
        refine zcl (xs := []) (rest := []) H4 zJ_228 rfl (k' := 72) rfl (by omega) rfl rfl (Nat.le_of_ble_eq_true rfl) (M' := z_m227) rfl (Nat.le_of_ble_eq_true rfl) ((zGr_all 6).2 (by omega) (by omega) (by omega) H4) (fun v h13 q => ?_)
        obtain ⟨c5, P5, Q5, D5, S5, g5, rfl, H5, h5⟩ := q
        show z_ok sx d 228 72 [(2, .int kv), (0, .ref a), (1, .int nn)] [.int c5] h13 _
        refine zh_if zJ_228 (a := 75) (b := 1) (z := 0) rfl (fun hc14 => ?_) (fun hc14 => ?_)
        · obtain ⟨-, rfl, h6, h7, h8, h9⟩ := (h5.resolve_left (fun e => zcmp_ne.mp hc14 (by rw [e])))
          have b5 := H5.bd
          exact zTl_228 ek hN H5 (by omega) (fun v hv => ⟨⟨by rw [zupd_ne (by omega), h8 _ (by omega), zupd_at]; exact ex8, by rw [zupd_at]; exact hv, h7, 1, zPs_cg (fun k k1 k2 => zupd_ne (by omega)) (h9 0 (by omega))⟩, fun k hk => by rw [zupd_ne (by omega), h8 k (by omega), zupd_ne (by omega), zupd_ne (by omega), zupd_ne (by omega)]⟩)
        · refine zh zJ_228 (i := (0, 0, 0, 0)) rfl rfl (k' := 74) (lo' := [(2, .int kv), (0, .ref a), (1, .int nn)]) (st' := [.int (Int32.ofInt (0))]) (h' := h13) rfl ?_
          refine zh_iret zJ_228 (a := 0) (b := 0) (z := 0) rfl (Or.inr ⟨rfl, Or.inl rfl⟩) ?_
          exact ⟨_, rfl, rfl, rfl, _, P5, Q5, D5, S5, g5, rfl, H5, Or.inl rfl⟩
    · refine zh zJ_228 (i := (0, 0, 0, 0)) rfl rfl (k' := 54) (lo' := [(2, .int kv), (0, .ref a), (1, .int nn)]) (st' := [.int (Int32.ofInt (0))]) (h' := h6) rfl ?_
      refine zh_iret zJ_228 (a := 0) (b := 0) (z := 0) rfl (Or.inr ⟨rfl, Or.inl rfl⟩) ?_
      exact ⟨_, rfl, rfl, rfl, _, P2, Q2, D, S, _, rfl, Hh6, Or.inl rfl⟩
  · refine zh zJ_228 (i := (0, 0, 0, 0)) rfl rfl (k' := 35) (lo' := [(2, .int kv), (0, .ref a), (1, .int nn)]) (st' := [.int (Int32.ofInt (0))]) (h' := h3) rfl ?_
    refine zh_iret zJ_228 (a := 0) (b := 0) (z := 0) rfl (Or.inr ⟨rfl, Or.inl rfl⟩) ?_
    exact ⟨_, rfl, rfl, rfl, _, P, Q, D, S, _, rfl, Hh3, Or.inl rfl⟩
set_option maxRecDepth 100000 in
theorem zS_228 {sx : zX} {ty : List Nat} {h0 : zH} {a w b E : Nat} {P Q D S d : Nat} {g : Nat → Int32} {h : zH} {N : Nat} {nn : Int32} (hd : 33 ≤ d) (en : nn.toInt = (N : Int)) (hN : N ≤ 11) (hP : S ≤ P) (H : zPS ty h0 a w b E P Q D S g h) : z_ok sx d 228 0 (lv_args 0 [.ref a, .int nn]) [] h (zRq (zRL ty h0 a w b E S N g)) := by
  show z_ok sx d 228 0 [(0, .ref a), (1, .int nn)] [] h _
  refine zh zJ_228 (i := (0, 0, 0, 1238)) rfl rfl (k' := 1) (lo' := [(0, .ref a), (1, .int nn)]) (st' := [.int (Int32.ofInt (1238))]) (h' := h) rfl ?_
  refine zh zJ_228 (i := (0, 0, 0, 4)) rfl rfl (k' := 2) (lo' := [(0, .ref a), (1, .int nn)]) (st' := [.int (Int32.ofInt (4)), .int (Int32.ofInt (1238))]) (h' := h) rfl ?_
  refine zh zJ_228 (i := (1, 1, 0, 0)) rfl rfl (k' := 3) (lo' := [(0, .ref a), (1, .int nn)]) (st' := [.int nn, .int (Int32.ofInt (4)), .int (Int32.ofInt (1238))]) (h' := h) rfl ?_
  refine zh zJ_228 (i := (10, 0, 0, 0)) rfl rfl (k' := 4) (lo' := [(0, .ref a), (1, .int nn)]) (st' := [.int ((Int32.ofInt (4)) * nn), .int (Int32.ofInt (1238))]) (h' := h) rfl ?_
  refine zh zJ_228 (i := (8, 0, 0, 0)) rfl rfl (k' := 5) (lo' := [(0, .ref a), (1, .int nn)]) (st' := [.int ((Int32.ofInt (1238)) + ((Int32.ofInt (4)) * nn))]) (h' := h) rfl ?_
  have ek : (((Int32.ofInt (1238)) + ((Int32.ofInt (4)) * nn))).toInt = ((1238 + 4 * N : Nat) : Int) := by
    rw [zI_add (zI_c (by decide) (by decide)) (zI_mul (zI_c (by decide) (by decide)) en (by omega) (by omega)) (by omega) (by omega)]
    omega
  generalize ((Int32.ofInt (1238)) + ((Int32.ofInt (4)) * nn)) = kv at ek ⊢
  refine zh zJ_228 (i := (4, 2, 0, 0)) rfl rfl (k' := 6) (lo' := [(2, .int kv), (0, .ref a), (1, .int nn)]) (st' := []) (h' := h) rfl ?_
  refine zh zJ_228 (i := (2, 0, 0, 0)) rfl rfl (k' := 7) (lo' := [(2, .int kv), (0, .ref a), (1, .int nn)]) (st' := [.ref a]) (h' := h) rfl ?_
  refine zg1 H zJ_228 rfl (k' := 8) rfl ?_
  refine zh zJ_228 (i := (1, 2, 0, 0)) rfl rfl (k' := 9) (lo' := [(2, .int kv), (0, .ref a), (1, .int nn)]) (st' := [.int kv, .ref w]) (h' := h) rfl ?_
  refine zh zJ_228 (i := (2, 0, 0, 0)) rfl rfl (k' := 10) (lo' := [(2, .int kv), (0, .ref a), (1, .int nn)]) (st' := [.ref a, .int kv, .ref w]) (h' := h) rfl ?_
  refine zldc zJ_228 rfl (k' := 11) rfl (by decide +kernel) ?_
  refine zcl (xs := [.ref (zB + 66)]) (rest := [.int kv, .ref w]) H zJ_228 rfl (k' := 12) rfl (by omega) rfl rfl (Nat.le_of_ble_eq_true rfl) (M' := z_m204) rfl (Nat.le_of_ble_eq_true rfl) (zS_204 (t := 66) (by omega) rfl (by decide) (by decide) H) (fun v h15 q => ?_)
  obtain ⟨rfl, c, rfl, hc⟩ := q
  show z_ok sx d 228 12 [(2, .int kv), (0, .ref a), (1, .int nn)] [.int c, .int kv, .ref w] h15 _
  refine zh_if zJ_228 (a := 15) (b := 0) (z := 0) rfl (fun hc16 => ?_) (fun hc16 => ?_)
  · refine zh zJ_228 (i := (2, 0, 0, 0)) rfl rfl (k' := 16) (lo' := [(2, .int kv), (0, .ref a), (1, .int nn)]) (st' := [.ref a, .int kv, .ref w]) (h' := h15) rfl ?_
    refine zldc zJ_228 rfl (k' := 17) rfl (by decide +kernel) ?_
    refine zcl (xs := [.ref (zB + 44)]) (rest := [.int kv, .ref w]) H zJ_228 rfl (k' := 18) rfl (by omega) rfl rfl (Nat.le_of_ble_eq_true rfl) (M' := z_m204) rfl (Nat.le_of_ble_eq_true rfl) (zS_204 (t := 44) (by omega) rfl (by decide) (by decide) H) (fun v h17 q => ?_)
    obtain ⟨rfl, c, rfl, hc⟩ := q
    show z_ok sx d 228 18 [(2, .int kv), (0, .ref a), (1, .int nn)] [.int c, .int kv, .ref w] h17 _
    refine zh_if zJ_228 (a := 21) (b := 0) (z := 0) rfl (fun hc18 => ?_) (fun hc18 => ?_)
    · refine zh zJ_228 (i := (2, 0, 0, 0)) rfl rfl (k' := 22) (lo' := [(2, .int kv), (0, .ref a), (1, .int nn)]) (st' := [.ref a, .int kv, .ref w]) (h' := h17) rfl ?_
      refine zldc zJ_228 rfl (k' := 23) rfl (by decide +kernel) ?_
      refine zcl (xs := [.ref (zB + 54)]) (rest := [.int kv, .ref w]) H zJ_228 rfl (k' := 24) rfl (by omega) rfl rfl (Nat.le_of_ble_eq_true rfl) (M' := z_m204) rfl (Nat.le_of_ble_eq_true rfl) (zS_204 (t := 54) (by omega) rfl (by decide) (by decide) H) (fun v h19 q => ?_)
      obtain ⟨rfl, c, rfl, hc⟩ := q
      show z_ok sx d 228 24 [(2, .int kv), (0, .ref a), (1, .int nn)] [.int c, .int kv, .ref w] h19 _
      refine zh_if zJ_228 (a := 27) (b := 0) (z := 0) rfl (fun hc20 => ?_) (fun hc20 => ?_)
      · refine zh zJ_228 (i := (0, 0, 0, -1)) rfl rfl (k' := 28) (lo' := [(2, .int kv), (0, .ref a), (1, .int nn)]) (st' := [.int (Int32.ofInt (-1)), .int kv, .ref w]) (h' := h19) rfl ?_
        exact zTm_228 (by omega) ek hN hP H
      · refine zh zJ_228 (i := (0, 0, 0, 2)) rfl rfl (k' := 26) (lo' := [(2, .int kv), (0, .ref a), (1, .int nn)]) (st' := [.int (Int32.ofInt (2)), .int kv, .ref w]) (h' := h19) rfl ?_
        refine zh zJ_228 (i := (30, 28, 0, 0)) rfl rfl (k' := 28) (lo' := [(2, .int kv), (0, .ref a), (1, .int nn)]) (st' := [.int (Int32.ofInt (2)), .int kv, .ref w]) (h' := h19) rfl ?_
        exact zTm_228 (by omega) ek hN hP H
    · refine zh zJ_228 (i := (0, 0, 0, 1)) rfl rfl (k' := 20) (lo' := [(2, .int kv), (0, .ref a), (1, .int nn)]) (st' := [.int (Int32.ofInt (1)), .int kv, .ref w]) (h' := h17) rfl ?_
      refine zh zJ_228 (i := (30, 28, 0, 0)) rfl rfl (k' := 28) (lo' := [(2, .int kv), (0, .ref a), (1, .int nn)]) (st' := [.int (Int32.ofInt (1)), .int kv, .ref w]) (h' := h17) rfl ?_
      exact zTm_228 (by omega) ek hN hP H
  · refine zh zJ_228 (i := (0, 0, 0, 0)) rfl rfl (k' := 14) (lo' := [(2, .int kv), (0, .ref a), (1, .int nn)]) (st' := [.int (Int32.ofInt (0)), .int kv, .ref w]) (h' := h15) rfl ?_
    refine zh zJ_228 (i := (30, 28, 0, 0)) rfl rfl (k' := 28) (lo' := [(2, .int kv), (0, .ref a), (1, .int nn)]) (st' := [.int (Int32.ofInt (0)), .int kv, .ref w]) (h' := h15) rfl ?_
    exact zTm_228 (by omega) ek hN hP H
theorem zJ_229 : zJ3 229 z_m229 z_c229 z_h229 := ⟨rfl, rfl, rfl⟩
set_option maxRecDepth 100000 in
theorem zS_229 {sx : zX} {ty : List Nat} {h0 : zH} {a w b E : Nat} {P Q D S d : Nat} {g : Nat → Int32} {h : zH} {N : Nat} {nn : Int32} (hd : 34 ≤ d) (en : nn.toInt = (N : Int)) (hP : S ≤ P) (H : zPS ty h0 a w b E P Q D S g h) : z_ok sx d 229 0 (lv_args 0 [.ref a, .int (Int32.ofInt (0)), .int nn]) [] h (zRq (zRL ty h0 a w b E S N g)) := by
  show z_ok sx d 229 0 [(0, .ref a), (1, .int (Int32.ofInt (0))), (2, .int nn)] [] h _
  refine zh zJ_229 (i := (2, 0, 0, 0)) rfl rfl (k' := 1) (lo' := [(0, .ref a), (1, .int (Int32.ofInt (0))), (2, .int nn)]) (st' := [.ref a]) (h' := h) rfl ?_
  refine zcl (xs := []) (rest := []) H zJ_229 rfl (k' := 2) rfl (by omega) rfl rfl (Nat.le_of_ble_eq_true rfl) (M' := z_m203) rfl (Nat.le_of_ble_eq_true rfl) (zS_203 (by omega) H) (fun v h21 q => ?_)
  obtain ⟨rfl, P1, Q1, h1, h2, H1⟩ := q
  show z_ok sx d 229 2 [(0, .ref a), (1, .int (Int32.ofInt (0))), (2, .int nn)] [] h21 _
  refine zh zJ_229 (i := (1, 2, 0, 0)) rfl rfl (k' := 3) (lo' := [(0, .ref a), (1, .int (Int32.ofInt (0))), (2, .int nn)]) (st' := [.int nn]) (h' := h21) rfl ?_
  refine zh zJ_229 (i := (1, 1, 0, 0)) rfl rfl (k' := 4) (lo' := [(0, .ref a), (1, .int (Int32.ofInt (0))), (2, .int nn)]) (st' := [.int (Int32.ofInt (0)), .int nn]) (h' := h21) rfl ?_
  refine zh_if zJ_229 (a := 7) (b := 0) (z := 0) rfl (fun hc22 => ?_) (fun hc22 => ?_)
  · refine zh zJ_229 (i := (0, 0, 0, 12)) rfl rfl (k' := 8) (lo' := [(0, .ref a), (1, .int (Int32.ofInt (0))), (2, .int nn)]) (st' := [.int (Int32.ofInt (12)), .int nn]) (h' := h21) rfl ?_
    refine zh_icmp zJ_229 (a := 21) (b := 3) (z := 0) rfl (fun hc23 => ?_) (fun hc23 => ?_)
    · refine zh zJ_229 (i := (0, 0, 0, 0)) rfl rfl (k' := 22) (lo' := [(0, .ref a), (1, .int (Int32.ofInt (0))), (2, .int nn)]) (st' := [.int (Int32.ofInt (0))]) (h' := h21) rfl ?_
      refine zh_iret zJ_229 (a := 0) (b := 0) (z := 0) rfl (Or.inr ⟨rfl, Or.inl rfl⟩) ?_
      exact ⟨_, rfl, rfl, rfl, _, P1, Q1, D, S, g, rfl, H1, Or.inl rfl⟩
    · have hN : N ≤ 11 := (by have := mt zcmp_ge.mpr hc23; rw [zI_c (by decide) (by decide)] at this; omega)
      refine zh zJ_229 (i := (1, 1, 0, 0)) rfl rfl (k' := 10) (lo' := [(0, .ref a), (1, .int (Int32.ofInt (0))), (2, .int nn)]) (st' := [.int (Int32.ofInt (0))]) (h' := h21) rfl ?_
      refine zh_if zJ_229 (a := 15) (b := 0) (z := 0) rfl (fun hc24 => ?_) (fun hc24 => ?_)
      · refine zh zJ_229 (i := (2, 0, 0, 0)) rfl rfl (k' := 16) (lo' := [(0, .ref a), (1, .int (Int32.ofInt (0))), (2, .int nn)]) (st' := [.ref a]) (h' := h21) rfl ?_
        refine zh zJ_229 (i := (1, 2, 0, 0)) rfl rfl (k' := 17) (lo' := [(0, .ref a), (1, .int (Int32.ofInt (0))), (2, .int nn)]) (st' := [.int nn, .ref a]) (h' := h21) rfl ?_
        refine zcl (xs := [.int nn]) (rest := []) H1 zJ_229 rfl (k' := 18) rfl (by omega) rfl rfl (Nat.le_of_ble_eq_true rfl) (M' := z_m228) rfl (Nat.le_of_ble_eq_true rfl) (zS_228 (by omega) en hN (by omega) H1) (fun v h25 q => ?_)
        obtain ⟨c5, P5, Q5, D5, S5, g5, rfl, H5, h5⟩ := q
        show z_ok sx d 229 18 [(0, .ref a), (1, .int (Int32.ofInt (0))), (2, .int nn)] [.int c5] h25 _
        refine zh_if zJ_229 (a := 21) (b := 0) (z := 0) rfl (fun hc26 => ?_) (fun hc26 => ?_)
        · refine zh zJ_229 (i := (0, 0, 0, 0)) rfl rfl (k' := 22) (lo' := [(0, .ref a), (1, .int (Int32.ofInt (0))), (2, .int nn)]) (st' := [.int (Int32.ofInt (0))]) (h' := h25) rfl ?_
          refine zh_iret zJ_229 (a := 0) (b := 0) (z := 0) rfl (Or.inr ⟨rfl, Or.inl rfl⟩) ?_
          exact ⟨_, rfl, rfl, rfl, _, P5, Q5, D5, S5, g5, rfl, H5, Or.inl rfl⟩
        · have h6 := (h5.resolve_left (fun e => hc26 (by rw [e]; rfl))).2
          refine zh zJ_229 (i := (0, 0, 0, 1)) rfl rfl (k' := 20) (lo' := [(0, .ref a), (1, .int (Int32.ofInt (0))), (2, .int nn)]) (st' := [.int (Int32.ofInt (1))]) (h' := h25) rfl ?_
          refine zh zJ_229 (i := (30, 22, 0, 0)) rfl rfl (k' := 22) (lo' := [(0, .ref a), (1, .int (Int32.ofInt (0))), (2, .int nn)]) (st' := [.int (Int32.ofInt (1))]) (h' := h25) rfl ?_
          refine zh_iret zJ_229 (a := 0) (b := 0) (z := 0) rfl (Or.inr ⟨rfl, Or.inr rfl⟩) ?_
          exact ⟨_, rfl, rfl, rfl, _, P5, Q5, D5, S5, g5, rfl, H5, Or.inr ⟨rfl, h6⟩⟩
      · exact absurd (show z_cmp 0 (Int32.ofInt (0)) 0 = true from rfl) hc24
  · exact absurd (show z_cmp 0 (Int32.ofInt (0)) 0 = true from rfl) hc22
theorem zJ_230 : zJ3 230 z_m230 z_c230 z_h230 := ⟨rfl, rfl, rfl⟩
noncomputable def zRA (ty : List Nat) (h0 : zH) (a w b E : Nat) : Option Value → zH → Prop := fun r h' => ∃ (c : Int32) (P' Q' D' S' : Nat) (g' : Nat → Int32), r = some (.int c) ∧ zPS ty h0 a w b E P' Q' D' S' g' h' ∧ (c.toInt = -1 ∨ ∃ N : Nat, N ≤ 12 ∧ c.toInt = (N : Int) ∧ ∀ l, l < N → ∃ s e, zLd g' l s e)
theorem zLne.keep {N S S' l s e : Nat} {g g' : Nat → Int32} (h : zLne N S g S' g') (hl : l < N) (hN : N ≤ 11) (he : e ≤ S) (H : zLd g l s e) : zLd g' l s e := by
  obtain ⟨h1, h2, h3, t', h4⟩ := H
  refine ⟨by rw [h.2 _ (Or.inl (by omega))]; exact h1, by rw [h.2 _ (Or.inl (by omega))]; exact h2, h3, t', zPs_cg (fun k k1 k2 => h.2 k (Or.inr ⟨k1, by omega⟩)) h4⟩
set_option maxRecDepth 100000 in
theorem zLp_230 {sx : zX} {ty : List Nat} {h0 : zH} {a w b E : Nat} {d : Nat} (hd : 35 ≤ d) : ∀ (n N P Q D S : Nat) (g : Nat → Int32) (h : zH) (nn : Int32), 12 < N + n → nn.toInt = (N : Int) → S ≤ P → zPS ty h0 a w b E P Q D S g h → (∀ l, l < N → ∃ s e, e ≤ S ∧ zLd g l s e) → z_ok sx d 230 16 [(2, .int nn), (0, .ref a), (1, .int (Int32.ofInt (0)))] [] h (zRq (zRA ty h0 a w b E))
  | 0, N, P, Q, D, S, g, h, nn, hn, en, hP, H, hlines => by
    obtain ⟨bE, bP, bQ, bD, bS⟩ := H.bd
    refine zh zJ_230 (i := (2, 0, 0, 0)) rfl rfl (k' := 17) (lo' := [(2, .int nn), (0, .ref a), (1, .int (Int32.ofInt (0)))]) (st' := [.ref a]) (h' := h) rfl ?_
    refine zh zJ_230 (i := (1, 1, 0, 0)) rfl rfl (k' := 18) (lo' := [(2, .int nn), (0, .ref a), (1, .int (Int32.ofInt (0)))]) (st' := [.int (Int32.ofInt (0)), .ref a]) (h' := h) rfl ?_
    refine zh zJ_230 (i := (1, 2, 0, 0)) rfl rfl (k' := 19) (lo' := [(2, .int nn), (0, .ref a), (1, .int (Int32.ofInt (0)))]) (st' := [.int nn, .int (Int32.ofInt (0)), .ref a]) (h' := h) rfl ?_
    refine zcl (xs := [.int nn, .int (Int32.ofInt (0))]) (rest := []) H zJ_230 rfl (k' := 20) rfl (by omega) rfl rfl (Nat.le_of_ble_eq_true rfl) (M' := z_m229) rfl (Nat.le_of_ble_eq_true rfl) (zS_229 (by omega) en hP H) (fun v h37 q => ?_)
    obtain ⟨c5, P5, Q5, D5, S5, g5, rfl, H5, h5⟩ := q
    show z_ok sx d 230 20 [(2, .int nn), (0, .ref a), (1, .int (Int32.ofInt (0)))] [.int c5] h37 _
    refine zh_if zJ_230 (a := 23) (b := 1) (z := 0) rfl (fun hc38 => ?_) (fun hc38 => ?_)
    · exact absurd ((h5.resolve_left (fun e => zcmp_ne.mp hc38 (by rw [e]))).2.1) (by omega)
    · refine zh zJ_230 (i := (0, 0, 0, -1)) rfl rfl (k' := 22) (lo' := [(2, .int nn), (0, .ref a), (1, .int (Int32.ofInt (0)))]) (st' := [.int (Int32.ofInt (-1))]) (h' := h37) rfl ?_
      refine zh_iret zJ_230 (a := 0) (b := 0) (z := 0) rfl (Or.inl rfl) ?_
      exact ⟨_, rfl, rfl, rfl, _, P5, Q5, D5, S5, g5, rfl, H5, Or.inl (by decide)⟩
  | n + 1, N, P, Q, D, S, g, h, nn, hn, en, hP, H, hlines => by
    obtain ⟨bE, bP, bQ, bD, bS⟩ := H.bd
    refine zh zJ_230 (i := (2, 0, 0, 0)) rfl rfl (k' := 17) (lo' := [(2, .int nn), (0, .ref a), (1, .int (Int32.ofInt (0)))]) (st' := [.ref a]) (h' := h) rfl ?_
    refine zh zJ_230 (i := (1, 1, 0, 0)) rfl rfl (k' := 18) (lo' := [(2, .int nn), (0, .ref a), (1, .int (Int32.ofInt (0)))]) (st' := [.int (Int32.ofInt (0)), .ref a]) (h' := h) rfl ?_
    refine zh zJ_230 (i := (1, 2, 0, 0)) rfl rfl (k' := 19) (lo' := [(2, .int nn), (0, .ref a), (1, .int (Int32.ofInt (0)))]) (st' := [.int nn, .int (Int32.ofInt (0)), .ref a]) (h' := h) rfl ?_
    refine zcl (xs := [.int nn, .int (Int32.ofInt (0))]) (rest := []) H zJ_230 rfl (k' := 20) rfl (by omega) rfl rfl (Nat.le_of_ble_eq_true rfl) (M' := z_m229) rfl (Nat.le_of_ble_eq_true rfl) (zS_229 (by omega) en hP H) (fun v h27 q => ?_)
    obtain ⟨c5, P5, Q5, D5, S5, g5, rfl, H5, h5⟩ := q
    show z_ok sx d 230 20 [(2, .int nn), (0, .ref a), (1, .int (Int32.ofInt (0)))] [.int c5] h27 _
    refine zh_if zJ_230 (a := 23) (b := 1) (z := 0) rfl (fun hc28 => ?_) (fun hc28 => ?_)
    · obtain ⟨-, hN, h6, h7⟩ := (h5.resolve_left (fun e => zcmp_ne.mp hc28 (by rw [e])))
      have hlk : ∀ l, l < N + 1 → ∃ s e, e ≤ S5 ∧ zLd g5 l s e := fun l hl => by
        have hss := h7.1.2.2.1
        by_cases hl2 : l = N
        · subst hl2; exact ⟨S, S5, Nat.le_refl _, h7.1⟩
        · obtain ⟨s, e, q1, q2⟩ := hlines l (by omega)
          exact ⟨s, e, by omega, h7.keep (by omega) hN q1 q2⟩
      have eN : (nn + Int32.ofInt (1)).toInt = ((N + 1 : Nat) : Int) := (by rw [zI_add en (zI_c (by decide) (by decide)) (by omega) (by omega)]; omega)
      refine zh zJ_230 (i := (2, 0, 0, 0)) rfl rfl (k' := 24) (lo' := [(2, .int nn), (0, .ref a), (1, .int (Int32.ofInt (0)))]) (st' := [.ref a]) (h' := h27) rfl ?_
      refine zcl (xs := []) (rest := []) H5 zJ_230 rfl (k' := 25) rfl (by omega) rfl rfl (Nat.le_of_ble_eq_true rfl) (M' := z_m202) rfl (Nat.le_of_ble_eq_true rfl) (zS_202 (by omega) H5) (fun v h29 q => ?_)
      obtain ⟨rfl, P6, h8, H6⟩ := q
      show z_ok sx d 230 25 [(2, .int nn), (0, .ref a), (1, .int (Int32.ofInt (0)))] [] h29 _
      have b6 := H6.bd
      refine zh zJ_230 (i := (2, 0, 0, 0)) rfl rfl (k' := 26) (lo' := [(2, .int nn), (0, .ref a), (1, .int (Int32.ofInt (0)))]) (st' := [.ref a]) (h' := h29) rfl ?_
      refine zg10 H6 zJ_230 rfl (k' := 27) rfl (fun x30 ex30 => ?_)
      refine zh zJ_230 (i := (2, 0, 0, 0)) rfl rfl (k' := 28) (lo' := [(2, .int nn), (0, .ref a), (1, .int (Int32.ofInt (0)))]) (st' := [.ref a, .int x30]) (h' := h29) rfl ?_
      refine zg11 H6 zJ_230 rfl (k' := 29) rfl (fun x31 ex31 => ?_)
      refine zh_icmp zJ_230 (a := 34) (b := 1) (z := 0) rfl (fun hc32 => ?_) (fun hc32 => ?_)
      · refine zh zJ_230 (i := (2, 0, 0, 0)) rfl rfl (k' := 35) (lo' := [(2, .int nn), (0, .ref a), (1, .int (Int32.ofInt (0)))]) (st' := [.ref a]) (h' := h29) rfl ?_
        refine zh zJ_230 (i := (0, 0, 0, 59)) rfl rfl (k' := 36) (lo' := [(2, .int nn), (0, .ref a), (1, .int (Int32.ofInt (0)))]) (st' := [.int (Int32.ofInt (59)), .ref a]) (h' := h29) rfl ?_
        refine zh zJ_230 (i := (0, 0, 0, 59)) rfl rfl (k' := 37) (lo' := [(2, .int nn), (0, .ref a), (1, .int (Int32.ofInt (0)))]) (st' := [.int (Int32.ofInt (59)), .int (Int32.ofInt (59)), .ref a]) (h' := h29) rfl ?_
        refine zcl (xs := [.int (Int32.ofInt (59)), .int (Int32.ofInt (59))]) (rest := []) H6 zJ_230 rfl (k' := 38) rfl (by omega) rfl rfl (Nat.le_of_ble_eq_true rfl) (M' := z_m201) rfl (Nat.le_of_ble_eq_true rfl) (zS_201 H6 _ _) (fun v h33 q => ?_)
        obtain ⟨rfl, c, rfl, hc⟩ := q
        show z_ok sx d 230 38 [(2, .int nn), (0, .ref a), (1, .int (Int32.ofInt (0)))] [.int c] h33 _
        refine zh_if zJ_230 (a := 41) (b := 1) (z := 0) rfl (fun hc34 => ?_) (fun hc34 => ?_)
        · have hlt : P6 < E := (hc.resolve_left (fun e => zcmp_ne.mp hc34 (by rw [e]))).2
          refine zh zJ_230 (i := (2, 0, 0, 0)) rfl rfl (k' := 42) (lo' := [(2, .int nn), (0, .ref a), (1, .int (Int32.ofInt (0)))]) (st' := [.ref a]) (h' := h33) rfl ?_
          refine zh zJ_230 (i := (27, 0, 0, 0)) rfl rfl (k' := 43) (lo' := [(2, .int nn), (0, .ref a), (1, .int (Int32.ofInt (0)))]) (st' := [.ref a, .ref a]) (h' := h33) rfl ?_
          refine zg10 H6 zJ_230 rfl (k' := 44) rfl (fun x35 ex35 => ?_)
          refine zh zJ_230 (i := (0, 0, 0, 1)) rfl rfl (k' := 45) (lo' := [(2, .int nn), (0, .ref a), (1, .int (Int32.ofInt (0)))]) (st' := [.int (Int32.ofInt (1)), .int x35, .ref a]) (h' := h33) rfl ?_
          refine zh zJ_230 (i := (8, 0, 0, 0)) rfl rfl (k' := 46) (lo' := [(2, .int nn), (0, .ref a), (1, .int (Int32.ofInt (0)))]) (st' := [.int (x35 + (Int32.ofInt (1))), .ref a]) (h' := h33) rfl ?_
          refine zp10 H6 zJ_230 rfl (k' := 47) rfl (P6 + 1) (by rw [zI_add ex35 (zI_c (by decide) (by decide)) (by omega) (by omega)]; omega) (by omega) (fun h36 Hh36 => ?_)
          refine zh zJ_230 (i := (7, 2, 0, 1)) rfl rfl (k' := 48) (lo' := [(2, .int (nn + Int32.ofInt (1))), (0, .ref a), (1, .int (Int32.ofInt (0)))]) (st' := []) (h' := h36) rfl ?_
          refine zh zJ_230 (i := (30, 16, 0, 0)) rfl rfl (k' := 16) (lo' := [(2, .int (nn + Int32.ofInt (1))), (0, .ref a), (1, .int (Int32.ofInt (0)))]) (st' := []) (h' := h36) rfl ?_
          exact zLp_230 hd n (N + 1) (P6 + 1) P6 D5 S5 g5 _ _ (by omega) eN (by omega) Hh36 (fun l hl => hlk l hl)
        · refine zh zJ_230 (i := (0, 0, 0, -1)) rfl rfl (k' := 40) (lo' := [(2, .int nn), (0, .ref a), (1, .int (Int32.ofInt (0)))]) (st' := [.int (Int32.ofInt (-1))]) (h' := h33) rfl ?_
          refine zh_iret zJ_230 (a := 0) (b := 0) (z := 0) rfl (Or.inl rfl) ?_
          exact ⟨_, rfl, rfl, rfl, _, P6, P6, D5, S5, g5, rfl, H6, Or.inl (by decide)⟩
      · refine zh zJ_230 (i := (1, 2, 0, 0)) rfl rfl (k' := 31) (lo' := [(2, .int nn), (0, .ref a), (1, .int (Int32.ofInt (0)))]) (st' := [.int nn]) (h' := h29) rfl ?_
        refine zh zJ_230 (i := (0, 0, 0, 1)) rfl rfl (k' := 32) (lo' := [(2, .int nn), (0, .ref a), (1, .int (Int32.ofInt (0)))]) (st' := [.int (Int32.ofInt (1)), .int nn]) (h' := h29) rfl ?_
        refine zh zJ_230 (i := (8, 0, 0, 0)) rfl rfl (k' := 33) (lo' := [(2, .int nn), (0, .ref a), (1, .int (Int32.ofInt (0)))]) (st' := [.int (nn + (Int32.ofInt (1)))]) (h' := h29) rfl ?_
        refine zh_iret zJ_230 (a := 0) (b := 0) (z := 0) rfl (Or.inl rfl) ?_
        exact ⟨_, rfl, rfl, rfl, _, P6, P6, D5, S5, g5, rfl, H6, Or.inr ⟨N + 1, by omega, eN, fun l hl => (by obtain ⟨s, e, -, q⟩ := hlk l hl; exact ⟨s, e, q⟩)⟩⟩
    · refine zh zJ_230 (i := (0, 0, 0, -1)) rfl rfl (k' := 22) (lo' := [(2, .int nn), (0, .ref a), (1, .int (Int32.ofInt (0)))]) (st' := [.int (Int32.ofInt (-1))]) (h' := h27) rfl ?_
      refine zh_iret zJ_230 (a := 0) (b := 0) (z := 0) rfl (Or.inl rfl) ?_
      exact ⟨_, rfl, rfl, rfl, _, P5, Q5, D5, S5, g5, rfl, H5, Or.inl (by decide)⟩
set_option maxRecDepth 100000 in
theorem zS_230 {sx : zX} {ty : List Nat} {h0 : zH} {a w b E : Nat} {P Q D S d : Nat} {g : Nat → Int32} {h : zH} (hd : 35 ≤ d) (H : zPS ty h0 a w b E P Q D S g h) : z_ok sx d 230 2 [(0, .ref a), (1, .int (Int32.ofInt (0)))] [] h (zRq (zRA ty h0 a w b E)) := by
  refine zh zJ_230 (i := (2, 0, 0, 0)) rfl rfl (k' := 3) (lo' := [(0, .ref a), (1, .int (Int32.ofInt (0)))]) (st' := [.ref a]) (h' := h) rfl ?_
  refine zh zJ_230 (i := (0, 0, 0, 0)) rfl rfl (k' := 4) (lo' := [(0, .ref a), (1, .int (Int32.ofInt (0)))]) (st' := [.int (Int32.ofInt (0)), .ref a]) (h' := h) rfl ?_
  refine zp16 H zJ_230 rfl (k' := 5) rfl (0) rfl (by omega) (fun h39 Hh39 => ?_)
  refine zh zJ_230 (i := (2, 0, 0, 0)) rfl rfl (k' := 6) (lo' := [(0, .ref a), (1, .int (Int32.ofInt (0)))]) (st' := [.ref a]) (h' := h39) rfl ?_
  refine zcl (xs := []) (rest := []) Hh39 zJ_230 rfl (k' := 7) rfl (by omega) rfl rfl (Nat.le_of_ble_eq_true rfl) (M' := z_m202) rfl (Nat.le_of_ble_eq_true rfl) (zS_202 (by omega) Hh39) (fun v h40 q => ?_)
  obtain ⟨rfl, P6, h8, H6⟩ := q
  show z_ok sx d 230 7 [(0, .ref a), (1, .int (Int32.ofInt (0)))] [] h40 _
  refine zh zJ_230 (i := (2, 0, 0, 0)) rfl rfl (k' := 8) (lo' := [(0, .ref a), (1, .int (Int32.ofInt (0)))]) (st' := [.ref a]) (h' := h40) rfl ?_
  refine zg10 H6 zJ_230 rfl (k' := 9) rfl (fun x41 ex41 => ?_)
  refine zh zJ_230 (i := (2, 0, 0, 0)) rfl rfl (k' := 10) (lo' := [(0, .ref a), (1, .int (Int32.ofInt (0)))]) (st' := [.ref a, .int x41]) (h' := h40) rfl ?_
  refine zg11 H6 zJ_230 rfl (k' := 11) rfl (fun x42 ex42 => ?_)
  refine zh_icmp zJ_230 (a := 14) (b := 1) (z := 0) rfl (fun hc43 => ?_) (fun hc43 => ?_)
  · refine zh zJ_230 (i := (0, 0, 0, 0)) rfl rfl (k' := 15) (lo' := [(0, .ref a), (1, .int (Int32.ofInt (0)))]) (st' := [.int (Int32.ofInt (0))]) (h' := h40) rfl ?_
    refine zh zJ_230 (i := (4, 2, 0, 0)) rfl rfl (k' := 16) (lo' := [(2, .int (Int32.ofInt (0))), (0, .ref a), (1, .int (Int32.ofInt (0)))]) (st' := []) (h' := h40) rfl ?_
    exact zLp_230 hd 13 0 P6 P6 D 0 g _ _ (by omega) rfl (by omega) H6 (fun l hl => absurd hl (Nat.not_lt_zero _))
  · refine zh zJ_230 (i := (0, 0, 0, 0)) rfl rfl (k' := 13) (lo' := [(0, .ref a), (1, .int (Int32.ofInt (0)))]) (st' := [.int (Int32.ofInt (0))]) (h' := h40) rfl ?_
    refine zh_iret zJ_230 (a := 0) (b := 0) (z := 0) rfl (Or.inl rfl) ?_
    exact ⟨_, rfl, rfl, rfl, _, P6, P6, D, 0, g, rfl, H6, Or.inr ⟨0, by omega, by decide, fun l hl => absurd hl (Nat.not_lt_zero _)⟩⟩
