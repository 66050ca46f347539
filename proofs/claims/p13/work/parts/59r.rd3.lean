section
/-! the reference's reader: the grammar; printed with wip/gen/gen_rd3.py -/
theorem zJ_222 : zJ3 222 z_m222 z_c222 z_h222 := ⟨rfl, rfl, rfl⟩
set_option maxRecDepth 100000 in
theorem zTl_222 {sx : zX} {ty : List Nat} {h0 : zH} {a w b E : Nat} {P D S d : Nat} {g : Nat → Int32} {h : zH} {P1 Q1 S1 : Nat} {g1 : Nat → Int32} {v : Int32} (H : zPS ty h0 a w b E P1 Q1 D S1 g1 h) (hs : 0 ≤ v.toInt → S1 + P ≤ P1 + S ∧ zCd S g S1 g1 1) : z_ok sx d 222 59 [(1, .int v), (0, .ref a)] [] h (zRq (zGs ty h0 a w b E P D S g)) := by
  refine zh zJ_222 (i := (1, 1, 0, 0)) rfl rfl (k' := 60) (lo' := [(1, .int v), (0, .ref a)]) (st' := [.int v]) (h' := h) rfl ?_
  refine zh_if zJ_222 (a := 63) (b := 2) (z := 0) rfl (fun hc1 => ?_) (fun hc1 => ?_)
  · refine zh zJ_222 (i := (0, 0, 0, 0)) rfl rfl (k' := 64) (lo' := [(1, .int v), (0, .ref a)]) (st' := [.int (Int32.ofInt (0))]) (h' := h) rfl ?_
    refine zh_iret zJ_222 (a := 0) (b := 0) (z := 0) rfl (Or.inr ⟨rfl, Or.inl rfl⟩) ?_
    exact ⟨_, rfl, rfl, rfl, _, P1, Q1, D, S1, g1, rfl, H, Or.inl rfl⟩
  · have h0v : 0 ≤ v.toInt := (by have := mt zcmp_lt.mpr hc1; rw [show (0 : Int32).toInt = 0 from rfl] at this; omega)
    have h9 := hs h0v
    refine zh zJ_222 (i := (0, 0, 0, 1)) rfl rfl (k' := 62) (lo' := [(1, .int v), (0, .ref a)]) (st' := [.int (Int32.ofInt (1))]) (h' := h) rfl ?_
    refine zh zJ_222 (i := (30, 64, 0, 0)) rfl rfl (k' := 64) (lo' := [(1, .int v), (0, .ref a)]) (st' := [.int (Int32.ofInt (1))]) (h' := h) rfl ?_
    refine zh_iret zJ_222 (a := 0) (b := 0) (z := 0) rfl (Or.inr ⟨rfl, Or.inr rfl⟩) ?_
    exact ⟨_, rfl, rfl, rfl, _, P1, Q1, D, S1, g1, rfl, H, Or.inr ⟨rfl, rfl, h9.1, h9.2⟩⟩
set_option maxRecDepth 100000 in
theorem zTm_222 {sx : zX} {ty : List Nat} {h0 : zH} {a w b E : Nat} {P D S d : Nat} {g : Nat → Int32} {h : zH} {P1 Q1 : Nat} {v : Int32} (hd : 9 ≤ d) (H : zPS ty h0 a w b E P1 Q1 D S g h) (hv : v.toInt ≤ 8) (hP : P + 1 ≤ P1) (hS : S + 1 ≤ P) : z_ok sx d 222 54 [(0, .ref a)] [.int v] h (zRq (zGs ty h0 a w b E P D S g)) := by
  obtain ⟨bE, bP, bQ, bD, bS⟩ := H.bd
  refine zh zJ_222 (i := (4, 1, 0, 0)) rfl rfl (k' := 55) (lo' := [(1, .int v), (0, .ref a)]) (st' := []) (h' := h) rfl ?_
  refine zh zJ_222 (i := (2, 0, 0, 0)) rfl rfl (k' := 56) (lo' := [(1, .int v), (0, .ref a)]) (st' := [.ref a]) (h' := h) rfl ?_
  refine zh zJ_222 (i := (1, 1, 0, 0)) rfl rfl (k' := 57) (lo' := [(1, .int v), (0, .ref a)]) (st' := [.int v, .ref a]) (h' := h) rfl ?_
  refine zh zJ_222 (i := (0, 0, 0, 0)) rfl rfl (k' := 58) (lo' := [(1, .int v), (0, .ref a)]) (st' := [.int (Int32.ofInt (0)), .int v, .ref a]) (h' := h) rfl ?_
  refine zcl (xs := [.int (Int32.ofInt (0)), .int v]) (rest := []) H zJ_222 rfl (k' := 59) rfl (by omega) rfl rfl (Nat.le_of_ble_eq_true rfl) (M' := z_m221) rfl (Nat.le_of_ble_eq_true rfl) (zS_221 _ _ (by omega) H) (fun v h2 q => ?_)
  obtain ⟨rfl, H2⟩ := q
  show z_ok sx d 222 59 [(1, .int v), (0, .ref a)] [] h2 _
  exact zTl_222 H2 (fun h9 => ⟨by omega, zCd.push (by omega) hv⟩)
set_option maxRecDepth 100000 in
theorem zS_222 {sx : zX} {ty : List Nat} {h0 : zH} {a w b E : Nat} {P Q D S d : Nat} {g : Nat → Int32} {h : zH} (hd : 10 ≤ d) (hS : S + 1 ≤ P) (H : zPS ty h0 a w b E P Q D S g h) : z_ok sx d 222 0 (lv_args 0 [.ref a]) [] h (zRq (zGs ty h0 a w b E P D S g)) := by
  show z_ok sx d 222 0 [(0, .ref a)] [] h _
  refine zh zJ_222 (i := (2, 0, 0, 0)) rfl rfl (k' := 1) (lo' := [(0, .ref a)]) (st' := [.ref a]) (h' := h) rfl ?_
  refine zcl (xs := []) (rest := []) H zJ_222 rfl (k' := 2) rfl (by omega) rfl rfl (Nat.le_of_ble_eq_true rfl) (M' := z_m203) rfl (Nat.le_of_ble_eq_true rfl) (zS_203 (by omega) H) (fun v h3 q => ?_)
  obtain ⟨rfl, P1, Q1, h1, h2, H1⟩ := q
  show z_ok sx d 222 2 [(0, .ref a)] [] h3 _
  obtain ⟨bE, bP, bQ, bD, bS⟩ := H1.bd
  refine zh zJ_222 (i := (2, 0, 0, 0)) rfl rfl (k' := 3) (lo' := [(0, .ref a)]) (st' := [.ref a]) (h' := h3) rfl ?_
  refine zg10 H1 zJ_222 rfl (k' := 4) rfl (fun x4 ex4 => ?_)
  refine zh zJ_222 (i := (2, 0, 0, 0)) rfl rfl (k' := 5) (lo' := [(0, .ref a)]) (st' := [.ref a, .int x4]) (h' := h3) rfl ?_
  refine zg12 H1 zJ_222 rfl (k' := 6) rfl (fun x5 ex5 => ?_)
  refine zh_icmp zJ_222 (a := 17) (b := 1) (z := 0) rfl (fun hc6 => ?_) (fun hc6 => ?_)
  · have hne : Q1 < P1 := (by have := zcmp_ne.mp hc6; omega)
    refine zh zJ_222 (i := (2, 0, 0, 0)) rfl rfl (k' := 18) (lo' := [(0, .ref a)]) (st' := [.ref a]) (h' := h3) rfl ?_
    refine zldc zJ_222 rfl (k' := 19) rfl (by decide +kernel) ?_
    refine zcl (xs := [.ref (zB + 50)]) (rest := []) H1 zJ_222 rfl (k' := 20) rfl (by omega) rfl rfl (Nat.le_of_ble_eq_true rfl) (M' := z_m204) rfl (Nat.le_of_ble_eq_true rfl) (zS_204 (t := 50) (by omega) rfl (by decide) (by decide) H1) (fun v h9 q => ?_)
    obtain ⟨rfl, c, rfl, hc⟩ := q
    show z_ok sx d 222 20 [(0, .ref a)] [.int c] h9 _
    refine zh_if zJ_222 (a := 23) (b := 0) (z := 0) rfl (fun hc10 => ?_) (fun hc10 => ?_)
    · refine zh zJ_222 (i := (2, 0, 0, 0)) rfl rfl (k' := 24) (lo' := [(0, .ref a)]) (st' := [.ref a]) (h' := h9) rfl ?_
      refine zldc zJ_222 rfl (k' := 25) rfl (by decide +kernel) ?_
      refine zcl (xs := [.ref (zB + 57)]) (rest := []) H1 zJ_222 rfl (k' := 26) rfl (by omega) rfl rfl (Nat.le_of_ble_eq_true rfl) (M' := z_m204) rfl (Nat.le_of_ble_eq_true rfl) (zS_204 (t := 57) (by omega) rfl (by decide) (by decide) H1) (fun v h11 q => ?_)
      obtain ⟨rfl, c, rfl, hc⟩ := q
      show z_ok sx d 222 26 [(0, .ref a)] [.int c] h11 _
      refine zh_if zJ_222 (a := 29) (b := 0) (z := 0) rfl (fun hc12 => ?_) (fun hc12 => ?_)
      · refine zh zJ_222 (i := (2, 0, 0, 0)) rfl rfl (k' := 30) (lo' := [(0, .ref a)]) (st' := [.ref a]) (h' := h11) rfl ?_
        refine zldc zJ_222 rfl (k' := 31) rfl (by decide +kernel) ?_
        refine zcl (xs := [.ref (zB + 58)]) (rest := []) H1 zJ_222 rfl (k' := 32) rfl (by omega) rfl rfl (Nat.le_of_ble_eq_true rfl) (M' := z_m204) rfl (Nat.le_of_ble_eq_true rfl) (zS_204 (t := 58) (by omega) rfl (by decide) (by decide) H1) (fun v h13 q => ?_)
        obtain ⟨rfl, c, rfl, hc⟩ := q
        show z_ok sx d 222 32 [(0, .ref a)] [.int c] h13 _
        refine zh_if zJ_222 (a := 35) (b := 0) (z := 0) rfl (fun hc14 => ?_) (fun hc14 => ?_)
        · refine zh zJ_222 (i := (2, 0, 0, 0)) rfl rfl (k' := 36) (lo' := [(0, .ref a)]) (st' := [.ref a]) (h' := h13) rfl ?_
          refine zldc zJ_222 rfl (k' := 37) rfl (by decide +kernel) ?_
          refine zcl (xs := [.ref (zB + 59)]) (rest := []) H1 zJ_222 rfl (k' := 38) rfl (by omega) rfl rfl (Nat.le_of_ble_eq_true rfl) (M' := z_m204) rfl (Nat.le_of_ble_eq_true rfl) (zS_204 (t := 59) (by omega) rfl (by decide) (by decide) H1) (fun v h15 q => ?_)
          obtain ⟨rfl, c, rfl, hc⟩ := q
          show z_ok sx d 222 38 [(0, .ref a)] [.int c] h15 _
          refine zh_if zJ_222 (a := 41) (b := 0) (z := 0) rfl (fun hc16 => ?_) (fun hc16 => ?_)
          · refine zh zJ_222 (i := (2, 0, 0, 0)) rfl rfl (k' := 42) (lo' := [(0, .ref a)]) (st' := [.ref a]) (h' := h15) rfl ?_
            refine zldc zJ_222 rfl (k' := 43) rfl (by decide +kernel) ?_
            refine zcl (xs := [.ref (zB + 60)]) (rest := []) H1 zJ_222 rfl (k' := 44) rfl (by omega) rfl rfl (Nat.le_of_ble_eq_true rfl) (M' := z_m204) rfl (Nat.le_of_ble_eq_true rfl) (zS_204 (t := 60) (by omega) rfl (by decide) (by decide) H1) (fun v h17 q => ?_)
            obtain ⟨rfl, c, rfl, hc⟩ := q
            show z_ok sx d 222 44 [(0, .ref a)] [.int c] h17 _
            refine zh_if zJ_222 (a := 47) (b := 0) (z := 0) rfl (fun hc18 => ?_) (fun hc18 => ?_)
            · refine zh zJ_222 (i := (2, 0, 0, 0)) rfl rfl (k' := 48) (lo' := [(0, .ref a)]) (st' := [.ref a]) (h' := h17) rfl ?_
              refine zldc zJ_222 rfl (k' := 49) rfl (by decide +kernel) ?_
              refine zcl (xs := [.ref (zB + 49)]) (rest := []) H1 zJ_222 rfl (k' := 50) rfl (by omega) rfl rfl (Nat.le_of_ble_eq_true rfl) (M' := z_m204) rfl (Nat.le_of_ble_eq_true rfl) (zS_204 (t := 49) (by omega) rfl (by decide) (by decide) H1) (fun v h19 q => ?_)
              obtain ⟨rfl, c, rfl, hc⟩ := q
              show z_ok sx d 222 50 [(0, .ref a)] [.int c] h19 _
              refine zh_if zJ_222 (a := 53) (b := 0) (z := 0) rfl (fun hc20 => ?_) (fun hc20 => ?_)
              · refine zh zJ_222 (i := (0, 0, 0, -1)) rfl rfl (k' := 54) (lo' := [(0, .ref a)]) (st' := [.int (Int32.ofInt (-1))]) (h' := h19) rfl ?_
                exact zTm_222 (by omega) H1 (by decide) (by omega) (by omega)
              · refine zh zJ_222 (i := (0, 0, 0, 5)) rfl rfl (k' := 52) (lo' := [(0, .ref a)]) (st' := [.int (Int32.ofInt (5))]) (h' := h19) rfl ?_
                refine zh zJ_222 (i := (30, 54, 0, 0)) rfl rfl (k' := 54) (lo' := [(0, .ref a)]) (st' := [.int (Int32.ofInt (5))]) (h' := h19) rfl ?_
                exact zTm_222 (by omega) H1 (by decide) (by omega) (by omega)
            · refine zh zJ_222 (i := (0, 0, 0, 4)) rfl rfl (k' := 46) (lo' := [(0, .ref a)]) (st' := [.int (Int32.ofInt (4))]) (h' := h17) rfl ?_
              refine zh zJ_222 (i := (30, 54, 0, 0)) rfl rfl (k' := 54) (lo' := [(0, .ref a)]) (st' := [.int (Int32.ofInt (4))]) (h' := h17) rfl ?_
              exact zTm_222 (by omega) H1 (by decide) (by omega) (by omega)
          · refine zh zJ_222 (i := (0, 0, 0, 3)) rfl rfl (k' := 40) (lo' := [(0, .ref a)]) (st' := [.int (Int32.ofInt (3))]) (h' := h15) rfl ?_
            refine zh zJ_222 (i := (30, 54, 0, 0)) rfl rfl (k' := 54) (lo' := [(0, .ref a)]) (st' := [.int (Int32.ofInt (3))]) (h' := h15) rfl ?_
            exact zTm_222 (by omega) H1 (by decide) (by omega) (by omega)
        · refine zh zJ_222 (i := (0, 0, 0, 2)) rfl rfl (k' := 34) (lo' := [(0, .ref a)]) (st' := [.int (Int32.ofInt (2))]) (h' := h13) rfl ?_
          refine zh zJ_222 (i := (30, 54, 0, 0)) rfl rfl (k' := 54) (lo' := [(0, .ref a)]) (st' := [.int (Int32.ofInt (2))]) (h' := h13) rfl ?_
          exact zTm_222 (by omega) H1 (by decide) (by omega) (by omega)
      · refine zh zJ_222 (i := (0, 0, 0, 1)) rfl rfl (k' := 28) (lo' := [(0, .ref a)]) (st' := [.int (Int32.ofInt (1))]) (h' := h11) rfl ?_
        refine zh zJ_222 (i := (30, 54, 0, 0)) rfl rfl (k' := 54) (lo' := [(0, .ref a)]) (st' := [.int (Int32.ofInt (1))]) (h' := h11) rfl ?_
        exact zTm_222 (by omega) H1 (by decide) (by omega) (by omega)
    · refine zh zJ_222 (i := (0, 0, 0, 0)) rfl rfl (k' := 22) (lo' := [(0, .ref a)]) (st' := [.int (Int32.ofInt (0))]) (h' := h9) rfl ?_
      refine zh zJ_222 (i := (30, 54, 0, 0)) rfl rfl (k' := 54) (lo' := [(0, .ref a)]) (st' := [.int (Int32.ofInt (0))]) (h' := h9) rfl ?_
      exact zTm_222 (by omega) H1 (by decide) (by omega) (by omega)
  · refine zh zJ_222 (i := (2, 0, 0, 0)) rfl rfl (k' := 8) (lo' := [(0, .ref a)]) (st' := [.ref a]) (h' := h3) rfl ?_
    refine zh zJ_222 (i := (0, 0, 0, 0)) rfl rfl (k' := 9) (lo' := [(0, .ref a)]) (st' := [.int (Int32.ofInt (0)), .ref a]) (h' := h3) rfl ?_
    refine zh zJ_222 (i := (0, 0, 0, 999)) rfl rfl (k' := 10) (lo' := [(0, .ref a)]) (st' := [.int (Int32.ofInt (999)), .int (Int32.ofInt (0)), .ref a]) (h' := h3) rfl ?_
    refine zcl (xs := [.int (Int32.ofInt (999)), .int (Int32.ofInt (0))]) (rest := []) H1 zJ_222 rfl (k' := 11) rfl (by omega) rfl rfl (Nat.le_of_ble_eq_true rfl) (M' := z_m207) rfl (Nat.le_of_ble_eq_true rfl) (zS_207 (by omega) _ _ H1) (fun v h7 q => ?_)
    obtain ⟨c, P2, Q2, rfl, H2, h3, h4⟩ := q
    show z_ok sx d 222 11 [(0, .ref a)] [.int c] h7 _
    have b2 := H2.bd
    refine zh zJ_222 (i := (4, 1, 0, 0)) rfl rfl (k' := 12) (lo' := [(1, .int c), (0, .ref a)]) (st' := []) (h' := h7) rfl ?_
    refine zh zJ_222 (i := (2, 0, 0, 0)) rfl rfl (k' := 13) (lo' := [(1, .int c), (0, .ref a)]) (st' := [.ref a]) (h' := h7) rfl ?_
    refine zh zJ_222 (i := (0, 0, 0, 8)) rfl rfl (k' := 14) (lo' := [(1, .int c), (0, .ref a)]) (st' := [.int (Int32.ofInt (8)), .ref a]) (h' := h7) rfl ?_
    refine zh zJ_222 (i := (1, 1, 0, 0)) rfl rfl (k' := 15) (lo' := [(1, .int c), (0, .ref a)]) (st' := [.int c, .int (Int32.ofInt (8)), .ref a]) (h' := h7) rfl ?_
    refine zcl (xs := [.int c, .int (Int32.ofInt (8))]) (rest := []) H2 zJ_222 rfl (k' := 16) rfl (by omega) rfl rfl (Nat.le_of_ble_eq_true rfl) (M' := z_m221) rfl (Nat.le_of_ble_eq_true rfl) (zS_221 _ _ (by omega) H2) (fun v h8 q => ?_)
    obtain ⟨rfl, H3⟩ := q
    show z_ok sx d 222 16 [(1, .int c), (0, .ref a)] [] h8 _
    refine zh zJ_222 (i := (30, 59, 0, 0)) rfl rfl (k' := 59) (lo' := [(1, .int c), (0, .ref a)]) (st' := []) (h' := h8) rfl ?_
    exact zTl_222 H3 (fun h9 => ⟨by omega, zCd.push (by omega) (by decide)⟩)
theorem zJ_223 : zJ3 223 z_m223 z_c223 z_h223 := ⟨rfl, rfl, rfl⟩
set_option maxRecDepth 100000 in
theorem zLp_223 {sx : zX} {ty : List Nat} {h0 : zH} {a w b E : Nat} {P D S d : Nat} {g : Nat → Int32} (hd : 11 ≤ d) (hS : S + 1 ≤ P) : ∀ (n P1 Q1 S1 : Nat) (g1 : Nat → Int32) (h : zH), 400 - P1 < n → zPS ty h0 a w b E P1 Q1 D S1 g1 h → S1 + P ≤ P1 + S → zCd S g S1 g1 1 → z_ok sx d 223 5 [(0, .ref a)] [] h (zRq (zGs ty h0 a w b E P D S g))
  | 0, _, _, _, _, _, hn, _, _, _ => absurd hn (Nat.not_lt_zero _)
  | n + 1, P1, Q1, S1, g1, h, hn, H, hP1, hcd => by
    obtain ⟨bE, bP, bQ, bD, bS⟩ := H.bd
    refine zh zJ_223 (i := (2, 0, 0, 0)) rfl rfl (k' := 6) (lo' := [(0, .ref a)]) (st' := [.ref a]) (h' := h) rfl ?_
    refine zh zJ_223 (i := (0, 0, 0, 43)) rfl rfl (k' := 7) (lo' := [(0, .ref a)]) (st' := [.int (Int32.ofInt (43)), .ref a]) (h' := h) rfl ?_
    refine zcl (xs := [.int (Int32.ofInt (43))]) (rest := []) H zJ_223 rfl (k' := 8) rfl (by omega) rfl rfl (Nat.le_of_ble_eq_true rfl) (M' := z_m206) rfl (Nat.le_of_ble_eq_true rfl) (zS_206 (by omega) _ H) (fun v h21 q => ?_)
    obtain ⟨c, P2, Q2, rfl, H2, l1, l2⟩ := q
    show z_ok sx d 223 8 [(0, .ref a)] [.int c] h21 _
    have b2 := H2.bd
    refine zh_if zJ_223 (a := 19) (b := 0) (z := 0) rfl (fun hc22 => ?_) (fun hc22 => ?_)
    · refine zh zJ_223 (i := (0, 0, 0, 1)) rfl rfl (k' := 20) (lo' := [(0, .ref a)]) (st' := [.int (Int32.ofInt (1))]) (h' := h21) rfl ?_
      refine zh_iret zJ_223 (a := 0) (b := 0) (z := 0) rfl (Or.inr ⟨rfl, Or.inr rfl⟩) ?_
      exact ⟨_, rfl, rfl, rfl, _, P2, Q2, D, S1, g1, rfl, H2, Or.inr ⟨rfl, rfl, by omega, hcd⟩⟩
    · have l3 := (l2.resolve_left (fun e => hc22 (by rw [e]; rfl))).2
      refine zh zJ_223 (i := (2, 0, 0, 0)) rfl rfl (k' := 10) (lo' := [(0, .ref a)]) (st' := [.ref a]) (h' := h21) rfl ?_
      refine zcl (xs := []) (rest := []) H2 zJ_223 rfl (k' := 11) rfl (by omega) rfl rfl (Nat.le_of_ble_eq_true rfl) (M' := z_m222) rfl (Nat.le_of_ble_eq_true rfl) (zS_222 (by omega) (by omega) H2) (fun v h23 q => ?_)
      obtain ⟨c3, P3, Q3, D3, S3, g3, rfl, H3, h3⟩ := q
      show z_ok sx d 223 11 [(0, .ref a)] [.int c3] h23 _
      refine zh_if zJ_223 (a := 14) (b := 1) (z := 0) rfl (fun hc24 => ?_) (fun hc24 => ?_)
      · obtain ⟨-, rfl, h5, h6⟩ := (h3.resolve_left (fun e => zcmp_ne.mp hc24 (by rw [e])))
        have h7 := h6.1
        have b3 := H3.bd
        refine zh zJ_223 (i := (2, 0, 0, 0)) rfl rfl (k' := 15) (lo' := [(0, .ref a)]) (st' := [.ref a]) (h' := h23) rfl ?_
        refine zh zJ_223 (i := (0, 0, 0, 9)) rfl rfl (k' := 16) (lo' := [(0, .ref a)]) (st' := [.int (Int32.ofInt (9)), .ref a]) (h' := h23) rfl ?_
        refine zh zJ_223 (i := (0, 0, 0, 0)) rfl rfl (k' := 17) (lo' := [(0, .ref a)]) (st' := [.int (Int32.ofInt (0)), .int (Int32.ofInt (9)), .ref a]) (h' := h23) rfl ?_
        refine zcl (xs := [.int (Int32.ofInt (0)), .int (Int32.ofInt (9))]) (rest := []) H3 zJ_223 rfl (k' := 18) rfl (by omega) rfl rfl (Nat.le_of_ble_eq_true rfl) (M' := z_m221) rfl (Nat.le_of_ble_eq_true rfl) (zS_221 _ _ (by omega) H3) (fun v h25 q => ?_)
        obtain ⟨rfl, H4⟩ := q
        show z_ok sx d 223 18 [(0, .ref a)] [] h25 _
        refine zh zJ_223 (i := (30, 5, 0, 0)) rfl rfl (k' := 5) (lo' := [(0, .ref a)]) (st' := []) (h' := h25) rfl ?_
        exact zLp_223 hd hS n P3 Q3 (S3 + 1) _ _ (by omega) H4 (by omega) ((hcd.two h6).bin (by omega) (by decide) (by decide))
      · refine zh zJ_223 (i := (0, 0, 0, 0)) rfl rfl (k' := 13) (lo' := [(0, .ref a)]) (st' := [.int (Int32.ofInt (0))]) (h' := h23) rfl ?_
        refine zh_iret zJ_223 (a := 0) (b := 0) (z := 0) rfl (Or.inr ⟨rfl, Or.inl rfl⟩) ?_
        exact ⟨_, rfl, rfl, rfl, _, P3, Q3, D3, S3, g3, rfl, H3, Or.inl rfl⟩
set_option maxRecDepth 100000 in
theorem zS_223 {sx : zX} {ty : List Nat} {h0 : zH} {a w b E : Nat} {P Q D S d : Nat} {g : Nat → Int32} {h : zH} (hd : 11 ≤ d) (hS : S + 1 ≤ P) (H : zPS ty h0 a w b E P Q D S g h) : z_ok sx d 223 0 (lv_args 0 [.ref a]) [] h (zRq (zGs ty h0 a w b E P D S g)) := by
  show z_ok sx d 223 0 [(0, .ref a)] [] h _
  refine zh zJ_223 (i := (2, 0, 0, 0)) rfl rfl (k' := 1) (lo' := [(0, .ref a)]) (st' := [.ref a]) (h' := h) rfl ?_
  refine zcl (xs := []) (rest := []) H zJ_223 rfl (k' := 2) rfl (by omega) rfl rfl (Nat.le_of_ble_eq_true rfl) (M' := z_m222) rfl (Nat.le_of_ble_eq_true rfl) (zS_222 (by omega) (by omega) H) (fun v h26 q => ?_)
  obtain ⟨c3, P3, Q3, D3, S3, g3, rfl, H3, h3⟩ := q
  show z_ok sx d 223 2 [(0, .ref a)] [.int c3] h26 _
  refine zh_if zJ_223 (a := 5) (b := 1) (z := 0) rfl (fun hc27 => ?_) (fun hc27 => ?_)
  · obtain ⟨-, rfl, h5, h6⟩ := (h3.resolve_left (fun e => zcmp_ne.mp hc27 (by rw [e])))
    exact zLp_223 hd hS 401 P3 Q3 S3 _ _ (by omega) H3 h5 h6
  · refine zh zJ_223 (i := (0, 0, 0, 0)) rfl rfl (k' := 4) (lo' := [(0, .ref a)]) (st' := [.int (Int32.ofInt (0))]) (h' := h26) rfl ?_
    refine zh_iret zJ_223 (a := 0) (b := 0) (z := 0) rfl (Or.inr ⟨rfl, Or.inl rfl⟩) ?_
    exact ⟨_, rfl, rfl, rfl, _, P3, Q3, D3, S3, g3, rfl, H3, Or.inl rfl⟩
theorem zJ_224 : zJ3 224 z_m224 z_c224 z_h224 := ⟨rfl, rfl, rfl⟩
set_option maxRecDepth 100000 in
theorem zTl_224 {sx : zX} {ty : List Nat} {h0 : zH} {a w b E : Nat} {P D S d : Nat} {g : Nat → Int32} {h : zH} {P1 Q1 : Nat} {v : Int32} (hd : 9 ≤ d) (hS : S + 1 ≤ P) (hPQ : P ≤ Q1) (H : zPS ty h0 a w b E P1 Q1 D S g h) (hv : v.toInt < 0 ∨ (Q1 + 1 ≤ P1 ∧ v.toInt ≤ 8)) : z_ok sx d 224 15 [(0, .ref a)] [.int v] h (zRq (fun r h' => ∃ (c : Int32) (P' Q' S' : Nat) (g' : Nat → Int32), r = some (.int c) ∧ zPS ty h0 a w b E P' Q' D S' g' h' ∧ ((c = 0 ∧ P ≤ P' ∧ S' = S ∧ g' = g) ∨ (c = 1 ∧ S' + P ≤ P' + S ∧ zCd S g S' g' 1)))) := by
  obtain ⟨bE, bP, bQ, bD, bS⟩ := H.bd
  refine zh zJ_224 (i := (4, 1, 0, 0)) rfl rfl (k' := 16) (lo' := [(1, .int v), (0, .ref a)]) (st' := []) (h' := h) rfl ?_
  refine zh zJ_224 (i := (1, 1, 0, 0)) rfl rfl (k' := 17) (lo' := [(1, .int v), (0, .ref a)]) (st' := [.int v]) (h' := h) rfl ?_
  refine zh_if zJ_224 (a := 23) (b := 2) (z := 0) rfl (fun hc28 => ?_) (fun hc28 => ?_)
  · refine zh zJ_224 (i := (2, 0, 0, 0)) rfl rfl (k' := 24) (lo' := [(1, .int v), (0, .ref a)]) (st' := [.ref a]) (h' := h) rfl ?_
    refine zh zJ_224 (i := (2, 0, 0, 0)) rfl rfl (k' := 25) (lo' := [(1, .int v), (0, .ref a)]) (st' := [.ref a, .ref a]) (h' := h) rfl ?_
    refine zg12 H zJ_224 rfl (k' := 26) rfl (fun x29 ex29 => ?_)
    refine zp10 H zJ_224 rfl (k' := 27) rfl (Q1) ex29 bQ (fun h30 Hh30 => ?_)
    refine zh zJ_224 (i := (1, 1, 0, 0)) rfl rfl (k' := 28) (lo' := [(1, .int v), (0, .ref a)]) (st' := [.int v]) (h' := h30) rfl ?_
    refine zh_if zJ_224 (a := 31) (b := 2) (z := 0) rfl (fun hc31 => ?_) (fun hc31 => ?_)
    · refine zh zJ_224 (i := (0, 0, 0, 0)) rfl rfl (k' := 32) (lo' := [(1, .int v), (0, .ref a)]) (st' := [.int (Int32.ofInt (0))]) (h' := h30) rfl ?_
      refine zh_iret zJ_224 (a := 0) (b := 0) (z := 0) rfl (Or.inr ⟨rfl, Or.inl rfl⟩) ?_
      exact ⟨_, rfl, rfl, rfl, _, Q1, Q1, S, g, rfl, Hh30, Or.inl ⟨rfl, hPQ, rfl, rfl⟩⟩
    · exact absurd hc28 hc31
  · have h0v : 0 ≤ v.toInt := (by have := mt zcmp_lt.mpr hc28; rw [show (0 : Int32).toInt = 0 from rfl] at this; omega)
    have hlt : Q1 + 1 ≤ P1 := (hv.resolve_left (by omega)).1
    have hv8 : v.toInt ≤ 8 := (hv.resolve_left (by omega)).2
    refine zh zJ_224 (i := (2, 0, 0, 0)) rfl rfl (k' := 19) (lo' := [(1, .int v), (0, .ref a)]) (st' := [.ref a]) (h' := h) rfl ?_
    refine zh zJ_224 (i := (1, 1, 0, 0)) rfl rfl (k' := 20) (lo' := [(1, .int v), (0, .ref a)]) (st' := [.int v, .ref a]) (h' := h) rfl ?_
    refine zh zJ_224 (i := (0, 0, 0, 0)) rfl rfl (k' := 21) (lo' := [(1, .int v), (0, .ref a)]) (st' := [.int (Int32.ofInt (0)), .int v, .ref a]) (h' := h) rfl ?_
    refine zcl (xs := [.int (Int32.ofInt (0)), .int v]) (rest := []) H zJ_224 rfl (k' := 22) rfl (by omega) rfl rfl (Nat.le_of_ble_eq_true rfl) (M' := z_m221) rfl (Nat.le_of_ble_eq_true rfl) (zS_221 _ _ (by omega) H) (fun v h32 q => ?_)
    obtain ⟨rfl, H2⟩ := q
    show z_ok sx d 224 22 [(1, .int v), (0, .ref a)] [] h32 _
    refine zh zJ_224 (i := (30, 27, 0, 0)) rfl rfl (k' := 27) (lo' := [(1, .int v), (0, .ref a)]) (st' := []) (h' := h32) rfl ?_
    refine zh zJ_224 (i := (1, 1, 0, 0)) rfl rfl (k' := 28) (lo' := [(1, .int v), (0, .ref a)]) (st' := [.int v]) (h' := h32) rfl ?_
    refine zh_if zJ_224 (a := 31) (b := 2) (z := 0) rfl (fun hc33 => ?_) (fun hc33 => ?_)
    · exact absurd hc33 hc28
    · refine zh zJ_224 (i := (0, 0, 0, 1)) rfl rfl (k' := 30) (lo' := [(1, .int v), (0, .ref a)]) (st' := [.int (Int32.ofInt (1))]) (h' := h32) rfl ?_
      refine zh zJ_224 (i := (30, 32, 0, 0)) rfl rfl (k' := 32) (lo' := [(1, .int v), (0, .ref a)]) (st' := [.int (Int32.ofInt (1))]) (h' := h32) rfl ?_
      refine zh_iret zJ_224 (a := 0) (b := 0) (z := 0) rfl (Or.inr ⟨rfl, Or.inr rfl⟩) ?_
      exact ⟨_, rfl, rfl, rfl, _, P1, Q1, S + 1, _, rfl, H2, Or.inr ⟨rfl, by omega, zCd.push (by omega) hv8⟩⟩
set_option maxRecDepth 100000 in
theorem zS_224 {sx : zX} {ty : List Nat} {h0 : zH} {a w b E : Nat} {P Q D S d : Nat} {g : Nat → Int32} {h : zH} (hd : 10 ≤ d) (hS : S + 1 ≤ P) (H : zPS ty h0 a w b E P Q D S g h) : z_ok sx d 224 0 (lv_args 0 [.ref a]) [] h (zRq (fun r h' => ∃ (c : Int32) (P' Q' S' : Nat) (g' : Nat → Int32), r = some (.int c) ∧ zPS ty h0 a w b E P' Q' D S' g' h' ∧ ((c = 0 ∧ P ≤ P' ∧ S' = S ∧ g' = g) ∨ (c = 1 ∧ S' + P ≤ P' + S ∧ zCd S g S' g' 1)))) := by
  show z_ok sx d 224 0 [(0, .ref a)] [] h _
  refine zh zJ_224 (i := (2, 0, 0, 0)) rfl rfl (k' := 1) (lo' := [(0, .ref a)]) (st' := [.ref a]) (h' := h) rfl ?_
  refine zcl (xs := []) (rest := []) H zJ_224 rfl (k' := 2) rfl (by omega) rfl rfl (Nat.le_of_ble_eq_true rfl) (M' := z_m203) rfl (Nat.le_of_ble_eq_true rfl) (zS_203 (by omega) H) (fun v h34 q => ?_)
  obtain ⟨rfl, P1, Q1, h1, h2, H1⟩ := q
  show z_ok sx d 224 2 [(0, .ref a)] [] h34 _
  refine zh zJ_224 (i := (2, 0, 0, 0)) rfl rfl (k' := 3) (lo' := [(0, .ref a)]) (st' := [.ref a]) (h' := h34) rfl ?_
  refine zldc zJ_224 rfl (k' := 4) rfl (by decide +kernel) ?_
  refine zcl (xs := [.ref (zB + 61)]) (rest := []) H1 zJ_224 rfl (k' := 5) rfl (by omega) rfl rfl (Nat.le_of_ble_eq_true rfl) (M' := z_m204) rfl (Nat.le_of_ble_eq_true rfl) (zS_204 (t := 61) (by omega) rfl (by decide) (by decide) H1) (fun v h35 q => ?_)
  obtain ⟨rfl, c, rfl, hc⟩ := q
  show z_ok sx d 224 5 [(0, .ref a)] [.int c] h35 _
  refine zh_if zJ_224 (a := 8) (b := 0) (z := 0) rfl (fun hc36 => ?_) (fun hc36 => ?_)
  · refine zh zJ_224 (i := (2, 0, 0, 0)) rfl rfl (k' := 9) (lo' := [(0, .ref a)]) (st' := [.ref a]) (h' := h35) rfl ?_
    refine zldc zJ_224 rfl (k' := 10) rfl (by decide +kernel) ?_
    refine zcl (xs := [.ref (zB + 62)]) (rest := []) H1 zJ_224 rfl (k' := 11) rfl (by omega) rfl rfl (Nat.le_of_ble_eq_true rfl) (M' := z_m204) rfl (Nat.le_of_ble_eq_true rfl) (zS_204 (t := 62) (by omega) rfl (by decide) (by decide) H1) (fun v h37 q => ?_)
    obtain ⟨rfl, c, rfl, hc⟩ := q
    show z_ok sx d 224 11 [(0, .ref a)] [.int c] h37 _
    refine zh_if zJ_224 (a := 14) (b := 0) (z := 0) rfl (fun hc38 => ?_) (fun hc38 => ?_)
    · refine zh zJ_224 (i := (0, 0, 0, -1)) rfl rfl (k' := 15) (lo' := [(0, .ref a)]) (st' := [.int (Int32.ofInt (-1))]) (h' := h37) rfl ?_
      exact zTl_224 (by omega) hS h1 H1 (Or.inl (by decide))
    · have hlt := (hc.resolve_left (fun e => hc38 (by rw [e]; rfl))).2
      refine zh zJ_224 (i := (0, 0, 0, 7)) rfl rfl (k' := 13) (lo' := [(0, .ref a)]) (st' := [.int (Int32.ofInt (7))]) (h' := h37) rfl ?_
      refine zh zJ_224 (i := (30, 15, 0, 0)) rfl rfl (k' := 15) (lo' := [(0, .ref a)]) (st' := [.int (Int32.ofInt (7))]) (h' := h37) rfl ?_
      exact zTl_224 (by omega) hS h1 H1 (Or.inr ⟨hlt, by decide⟩)
  · have hlt := (hc.resolve_left (fun e => hc36 (by rw [e]; rfl))).2
    refine zh zJ_224 (i := (0, 0, 0, 6)) rfl rfl (k' := 7) (lo' := [(0, .ref a)]) (st' := [.int (Int32.ofInt (6))]) (h' := h35) rfl ?_
    refine zh zJ_224 (i := (30, 15, 0, 0)) rfl rfl (k' := 15) (lo' := [(0, .ref a)]) (st' := [.int (Int32.ofInt (6))]) (h' := h35) rfl ?_
    exact zTl_224 (by omega) hS h1 H1 (Or.inr ⟨hlt, by decide⟩)
theorem zJ_225 : zJ3 225 z_m225 z_c225 z_h225 := ⟨rfl, rfl, rfl⟩
set_option maxRecDepth 100000 in
theorem zTl_225 {sx : zX} {ty : List Nat} {h0 : zH} {a w b E : Nat} {P D S d : Nat} {g : Nat → Int32} {h : zH} {P1 Q1 S1 : Nat} {g1 : Nat → Int32} {c : Int32} (hd : 12 ≤ d) (hS : S + 1 ≤ P) (H : zPS ty h0 a w b E P1 Q1 D S1 g1 h) (hP : S1 + P + 1 ≤ P1 + S) (hcd : zCd S g S1 g1 1) : z_ok sx d 225 84 [(1, .int c), (0, .ref a)] [] h (zRq (zGs ty h0 a w b E P D S g)) := by
  obtain ⟨bE, bP, bQ, bD, bS⟩ := H.bd
  have hS1 := hcd.1
  refine zh zJ_225 (i := (2, 0, 0, 0)) rfl rfl (k' := 85) (lo' := [(1, .int c), (0, .ref a)]) (st' := [.ref a]) (h' := h) rfl ?_
  refine zcl (xs := []) (rest := []) H zJ_225 rfl (k' := 86) rfl (by omega) rfl rfl (Nat.le_of_ble_eq_true rfl) (M' := z_m223) rfl (Nat.le_of_ble_eq_true rfl) (zS_223 (by omega) (by omega) H) (fun v h39 q => ?_)
  obtain ⟨c3, P3, Q3, D3, S3, g3, rfl, H3, h3⟩ := q
  show z_ok sx d 225 86 [(1, .int c), (0, .ref a)] [.int c3] h39 _
  refine zh_if zJ_225 (a := 89) (b := 1) (z := 0) rfl (fun hc40 => ?_) (fun hc40 => ?_)
  · obtain ⟨-, rfl, h5, h6⟩ := (h3.resolve_left (fun e => zcmp_ne.mp hc40 (by rw [e])))
    have h7 := h6.1
    have b3 := H3.bd
    refine zh zJ_225 (i := (2, 0, 0, 0)) rfl rfl (k' := 90) (lo' := [(1, .int c), (0, .ref a)]) (st' := [.ref a]) (h' := h39) rfl ?_
    refine zh zJ_225 (i := (1, 1, 0, 0)) rfl rfl (k' := 91) (lo' := [(1, .int c), (0, .ref a)]) (st' := [.int c, .ref a]) (h' := h39) rfl ?_
    refine zh_if zJ_225 (a := 94) (b := 0) (z := 0) rfl (fun hc41 => ?_) (fun hc41 => ?_)
    · refine zh zJ_225 (i := (0, 0, 0, 11)) rfl rfl (k' := 95) (lo' := [(1, .int c), (0, .ref a)]) (st' := [.int (Int32.ofInt (11)), .ref a]) (h' := h39) rfl ?_
      refine zh zJ_225 (i := (0, 0, 0, 0)) rfl rfl (k' := 96) (lo' := [(1, .int c), (0, .ref a)]) (st' := [.int (Int32.ofInt (0)), .int (Int32.ofInt (11)), .ref a]) (h' := h39) rfl ?_
      refine zcl (xs := [.int (Int32.ofInt (0)), .int (Int32.ofInt (11))]) (rest := []) H3 zJ_225 rfl (k' := 97) rfl (by omega) rfl rfl (Nat.le_of_ble_eq_true rfl) (M' := z_m221) rfl (Nat.le_of_ble_eq_true rfl) (zS_221 _ _ (by omega) H3) (fun v h42 q => ?_)
      obtain ⟨rfl, H4⟩ := q
      show z_ok sx d 225 97 [(1, .int c), (0, .ref a)] [] h42 _
      refine zh zJ_225 (i := (0, 0, 0, 1)) rfl rfl (k' := 98) (lo' := [(1, .int c), (0, .ref a)]) (st' := [.int (Int32.ofInt (1))]) (h' := h42) rfl ?_
      refine zh_iret zJ_225 (a := 0) (b := 0) (z := 0) rfl (Or.inr ⟨rfl, Or.inr rfl⟩) ?_
      exact ⟨_, rfl, rfl, rfl, _, P3, Q3, D3, S3 + 1, _, rfl, H4, Or.inr ⟨rfl, rfl, by omega, (hcd.two h6).bin (by omega) (by decide) (by decide)⟩⟩
    · refine zh zJ_225 (i := (0, 0, 0, 10)) rfl rfl (k' := 93) (lo' := [(1, .int c), (0, .ref a)]) (st' := [.int (Int32.ofInt (10)), .ref a]) (h' := h39) rfl ?_
      refine zh zJ_225 (i := (30, 95, 0, 0)) rfl rfl (k' := 95) (lo' := [(1, .int c), (0, .ref a)]) (st' := [.int (Int32.ofInt (10)), .ref a]) (h' := h39) rfl ?_
      refine zh zJ_225 (i := (0, 0, 0, 0)) rfl rfl (k' := 96) (lo' := [(1, .int c), (0, .ref a)]) (st' := [.int (Int32.ofInt (0)), .int (Int32.ofInt (10)), .ref a]) (h' := h39) rfl ?_
      refine zcl (xs := [.int (Int32.ofInt (0)), .int (Int32.ofInt (10))]) (rest := []) H3 zJ_225 rfl (k' := 97) rfl (by omega) rfl rfl (Nat.le_of_ble_eq_true rfl) (M' := z_m221) rfl (Nat.le_of_ble_eq_true rfl) (zS_221 _ _ (by omega) H3) (fun v h43 q => ?_)
      obtain ⟨rfl, H4⟩ := q
      show z_ok sx d 225 97 [(1, .int c), (0, .ref a)] [] h43 _
      refine zh zJ_225 (i := (0, 0, 0, 1)) rfl rfl (k' := 98) (lo' := [(1, .int c), (0, .ref a)]) (st' := [.int (Int32.ofInt (1))]) (h' := h43) rfl ?_
      refine zh_iret zJ_225 (a := 0) (b := 0) (z := 0) rfl (Or.inr ⟨rfl, Or.inr rfl⟩) ?_
      exact ⟨_, rfl, rfl, rfl, _, P3, Q3, D3, S3 + 1, _, rfl, H4, Or.inr ⟨rfl, rfl, by omega, (hcd.two h6).bin (by omega) (by decide) (by decide)⟩⟩
  · refine zh zJ_225 (i := (0, 0, 0, 0)) rfl rfl (k' := 88) (lo' := [(1, .int c), (0, .ref a)]) (st' := [.int (Int32.ofInt (0))]) (h' := h39) rfl ?_
    refine zh_iret zJ_225 (a := 0) (b := 0) (z := 0) rfl (Or.inr ⟨rfl, Or.inl rfl⟩) ?_
    exact ⟨_, rfl, rfl, rfl, _, P3, Q3, D3, S3, g3, rfl, H3, Or.inl rfl⟩
noncomputable def zGA (n : Nat) : Prop := ∀ {sx : zX} {ty : List Nat} {h0 : zH} {a w b E : Nat} {P Q D S d : Nat} {g : Nat → Int32} {h : zH}, D + n = 6 → 12 + 3 * n ≤ d → S + 1 ≤ P → zPS ty h0 a w b E P Q D S g h → z_ok sx d 225 0 (lv_args 0 [.ref a]) [] h (zRq (zGs ty h0 a w b E P D S g))
noncomputable def zGL (n : Nat) : Prop := ∀ {sx : zX} {ty : List Nat} {h0 : zH} {a w b E : Nat} {P Q D S d : Nat} {g : Nat → Int32} {h : zH}, D + n = 6 → 13 + 3 * n ≤ d → S + 1 ≤ P → zPS ty h0 a w b E P Q D S g h → z_ok sx d 226 0 (lv_args 0 [.ref a]) [] h (zRq (zGs ty h0 a w b E P D S g))
noncomputable def zGC (n : Nat) : Prop := ∀ {sx : zX} {ty : List Nat} {h0 : zH} {a w b E : Nat} {P Q D S d : Nat} {g : Nat → Int32} {h : zH}, D + n = 6 → 14 + 3 * n ≤ d → S + 1 ≤ P → zPS ty h0 a w b E P Q D S g h → z_ok sx d 227 0 (lv_args 0 [.ref a]) [] h (zRq (zGs ty h0 a w b E P D S g))
theorem zcmp0 {x : Int32} (h : z_cmp 0 x 0 = true) : x = 0 := Int32.toInt_inj.mp (zcmp_eq.mp h)
set_option maxRecDepth 100000 in
theorem zS_225 (n : Nat) (ih : ∀ m, n = m + 1 → zGA m ∧ zGC m) : zGA n := by
  intro sx ty h0 a w b E P Q D S d g h hn hd hS H
  obtain ⟨bE, bP, bQ, bD, bS⟩ := H.bd
  show z_ok sx d 225 0 [(0, .ref a)] [] h _
  refine zh zJ_225 (i := (2, 0, 0, 0)) rfl rfl (k' := 1) (lo' := [(0, .ref a)]) (st' := [.ref a]) (h' := h) rfl ?_
  refine zh zJ_225 (i := (0, 0, 0, 40)) rfl rfl (k' := 2) (lo' := [(0, .ref a)]) (st' := [.int (Int32.ofInt (40)), .ref a]) (h' := h) rfl ?_
  refine zcl (xs := [.int (Int32.ofInt (40))]) (rest := []) H zJ_225 rfl (k' := 3) rfl (by omega) rfl rfl (Nat.le_of_ble_eq_true rfl) (M' := z_m206) rfl (Nat.le_of_ble_eq_true rfl) (zS_206 (by omega) _ H) (fun v h44 q => ?_)
  obtain ⟨c, P1, Q1, rfl, H1, l1, l2⟩ := q
  show z_ok sx d 225 3 [(0, .ref a)] [.int c] h44 _
  have b1 := H1.bd
  refine zh_if zJ_225 (a := 31) (b := 0) (z := 0) rfl (fun hc45 => ?_) (fun hc45 => ?_)
  · refine zh zJ_225 (i := (2, 0, 0, 0)) rfl rfl (k' := 32) (lo' := [(0, .ref a)]) (st' := [.ref a]) (h' := h44) rfl ?_
    refine zldc zJ_225 rfl (k' := 33) rfl (by decide +kernel) ?_
    refine zcl (xs := [.ref (zB + 63)]) (rest := []) H1 zJ_225 rfl (k' := 34) rfl (by omega) rfl rfl (Nat.le_of_ble_eq_true rfl) (M' := z_m205) rfl (Nat.le_of_ble_eq_true rfl) (zS_205 (t := 63) (by omega) rfl (by decide) (by decide) H1) (fun v h55 q => ?_)
    obtain ⟨c2, P2, Q2, rfl, H2, k1, k2⟩ := q
    show z_ok sx d 225 34 [(0, .ref a)] [.int c2] h55 _
    have b2 := H2.bd
    refine zh_if zJ_225 (a := 64) (b := 0) (z := 0) rfl (fun hc56 => ?_) (fun hc56 => ?_)
    · refine zh zJ_225 (i := (2, 0, 0, 0)) rfl rfl (k' := 65) (lo' := [(0, .ref a)]) (st' := [.ref a]) (h' := h55) rfl ?_
      refine zcl (xs := []) (rest := []) H2 zJ_225 rfl (k' := 66) rfl (by omega) rfl rfl (Nat.le_of_ble_eq_true rfl) (M' := z_m224) rfl (Nat.le_of_ble_eq_true rfl) (zS_224 (by omega) (by omega) H2) (fun v h66 q => ?_)
      obtain ⟨c3, P3, Q3, S3, g3, rfl, H3, h3⟩ := q
      show z_ok sx d 225 66 [(0, .ref a)] [.int c3] h66 _
      refine zh_if zJ_225 (a := 69) (b := 0) (z := 0) rfl (fun hc67 => ?_) (fun hc67 => ?_)
      · have e3 : c3 = 0 := zcmp0 hc67
        obtain ⟨-, h5, rfl, rfl⟩ := h3.resolve_right (fun e => by rw [e3] at e; exact absurd e.1 (by decide))
        refine zh zJ_225 (i := (2, 0, 0, 0)) rfl rfl (k' := 70) (lo' := [(0, .ref a)]) (st' := [.ref a]) (h' := h66) rfl ?_
        refine zcl (xs := []) (rest := []) H3 zJ_225 rfl (k' := 71) rfl (by omega) rfl rfl (Nat.le_of_ble_eq_true rfl) (M' := z_m223) rfl (Nat.le_of_ble_eq_true rfl) (zS_223 (by omega) (by omega) H3) (fun v h68 q => ?_)
        obtain ⟨c4, P4, Q4, D4, S4, g4, rfl, H4, h4⟩ := q
        show z_ok sx d 225 71 [(0, .ref a)] [.int c4] h68 _
        refine zh_if zJ_225 (a := 74) (b := 1) (z := 0) rfl (fun hc69 => ?_) (fun hc69 => ?_)
        · obtain ⟨-, rfl, h6, h7⟩ := (h4.resolve_left (fun e => zcmp_ne.mp hc69 (by rw [e])))
          refine zh zJ_225 (i := (2, 0, 0, 0)) rfl rfl (k' := 75) (lo' := [(0, .ref a)]) (st' := [.ref a]) (h' := h68) rfl ?_
          refine zh zJ_225 (i := (0, 0, 0, 60)) rfl rfl (k' := 76) (lo' := [(0, .ref a)]) (st' := [.int (Int32.ofInt (60)), .ref a]) (h' := h68) rfl ?_
          refine zcl (xs := [.int (Int32.ofInt (60))]) (rest := []) H4 zJ_225 rfl (k' := 77) rfl (by omega) rfl rfl (Nat.le_of_ble_eq_true rfl) (M' := z_m206) rfl (Nat.le_of_ble_eq_true rfl) (zS_206 (by omega) _ H4) (fun v h70 q => ?_)
          obtain ⟨c5, P5, Q5, rfl, H5, m1, m2⟩ := q
          show z_ok sx d 225 77 [(0, .ref a)] [.int c5] h70 _
          refine zh zJ_225 (i := (4, 1, 0, 0)) rfl rfl (k' := 78) (lo' := [(1, .int c5), (0, .ref a)]) (st' := []) (h' := h70) rfl ?_
          refine zh zJ_225 (i := (1, 1, 0, 0)) rfl rfl (k' := 79) (lo' := [(1, .int c5), (0, .ref a)]) (st' := [.int c5]) (h' := h70) rfl ?_
          refine zh_if zJ_225 (a := 84) (b := 1) (z := 0) rfl (fun hc71 => ?_) (fun hc71 => ?_)
          · have m3 := (m2.resolve_left (fun e => zcmp_ne.mp hc71 (by rw [e]))).2
            exact zTl_225 (by omega) hS H5 (by omega) h7
          · refine zh zJ_225 (i := (2, 0, 0, 0)) rfl rfl (k' := 81) (lo' := [(1, .int c5), (0, .ref a)]) (st' := [.ref a]) (h' := h70) rfl ?_
            refine zh zJ_225 (i := (0, 0, 0, 62)) rfl rfl (k' := 82) (lo' := [(1, .int c5), (0, .ref a)]) (st' := [.int (Int32.ofInt (62)), .ref a]) (h' := h70) rfl ?_
            refine zcl (xs := [.int (Int32.ofInt (62))]) (rest := []) H5 zJ_225 rfl (k' := 83) rfl (by omega) rfl rfl (Nat.le_of_ble_eq_true rfl) (M' := z_m206) rfl (Nat.le_of_ble_eq_true rfl) (zS_206 (by omega) _ H5) (fun v h72 q => ?_)
            obtain ⟨c6, P6, Q6, rfl, H6, n1, n2⟩ := q
            show z_ok sx d 225 83 [(1, .int c5), (0, .ref a)] [.int c6] h72 _
            refine zh_if zJ_225 (a := 87) (b := 0) (z := 0) rfl (fun hc73 => ?_) (fun hc73 => ?_)
            · refine zh zJ_225 (i := (0, 0, 0, 0)) rfl rfl (k' := 88) (lo' := [(1, .int c5), (0, .ref a)]) (st' := [.int (Int32.ofInt (0))]) (h' := h72) rfl ?_
              refine zh_iret zJ_225 (a := 0) (b := 0) (z := 0) rfl (Or.inr ⟨rfl, Or.inl rfl⟩) ?_
              exact ⟨_, rfl, rfl, rfl, _, P6, Q6, _, S4, g4, rfl, H6, Or.inl rfl⟩
            · have n3 := (n2.resolve_left (fun e => hc73 (by rw [e]; rfl))).2
              exact zTl_225 (by omega) hS H6 (by omega) h7
        · refine zh zJ_225 (i := (0, 0, 0, 0)) rfl rfl (k' := 73) (lo' := [(0, .ref a)]) (st' := [.int (Int32.ofInt (0))]) (h' := h68) rfl ?_
          refine zh_iret zJ_225 (a := 0) (b := 0) (z := 0) rfl (Or.inr ⟨rfl, Or.inl rfl⟩) ?_
          exact ⟨_, rfl, rfl, rfl, _, P4, Q4, D4, S4, g4, rfl, H4, Or.inl rfl⟩
      · obtain ⟨-, h5, h6⟩ := h3.resolve_left (fun e => hc67 (by rw [e.1]; rfl))
        refine zh zJ_225 (i := (0, 0, 0, 1)) rfl rfl (k' := 68) (lo' := [(0, .ref a)]) (st' := [.int (Int32.ofInt (1))]) (h' := h66) rfl ?_
        refine zh_iret zJ_225 (a := 0) (b := 0) (z := 0) rfl (Or.inr ⟨rfl, Or.inr rfl⟩) ?_
        exact ⟨_, rfl, rfl, rfl, _, P3, Q3, D, S3, g3, rfl, H3, Or.inr ⟨rfl, rfl, by omega, h6⟩⟩
    · have k3 := (k2.resolve_left (fun e => hc56 (by rw [e]; rfl))).2
      refine zh zJ_225 (i := (2, 0, 0, 0)) rfl rfl (k' := 36) (lo' := [(0, .ref a)]) (st' := [.ref a]) (h' := h55) rfl ?_
      refine zg13 H2 zJ_225 rfl (k' := 37) rfl (fun x57 ex57 => ?_)
      refine zh zJ_225 (i := (0, 0, 0, 6)) rfl rfl (k' := 38) (lo' := [(0, .ref a)]) (st' := [.int (Int32.ofInt (6)), .int x57]) (h' := h55) rfl ?_
      refine zh_icmp zJ_225 (a := 41) (b := 1) (z := 0) rfl (fun hc58 => ?_) (fun hc58 => ?_)
      · have hD : D < 6 := (by have := zcmp_ne.mp hc58; rw [zI_c (by decide) (by decide)] at this; omega)
        obtain ⟨m, rfl⟩ : ∃ m, n = m + 1 := ⟨n - 1, by omega⟩
        obtain ⟨gA, gC⟩ := ih m rfl
        refine zh zJ_225 (i := (2, 0, 0, 0)) rfl rfl (k' := 42) (lo' := [(0, .ref a)]) (st' := [.ref a]) (h' := h55) rfl ?_
        refine zh zJ_225 (i := (27, 0, 0, 0)) rfl rfl (k' := 43) (lo' := [(0, .ref a)]) (st' := [.ref a, .ref a]) (h' := h55) rfl ?_
        refine zg13 H2 zJ_225 rfl (k' := 44) rfl (fun x59 ex59 => ?_)
        refine zh zJ_225 (i := (0, 0, 0, 1)) rfl rfl (k' := 45) (lo' := [(0, .ref a)]) (st' := [.int (Int32.ofInt (1)), .int x59, .ref a]) (h' := h55) rfl ?_
        refine zh zJ_225 (i := (8, 0, 0, 0)) rfl rfl (k' := 46) (lo' := [(0, .ref a)]) (st' := [.int (x59 + (Int32.ofInt (1))), .ref a]) (h' := h55) rfl ?_
        refine zp13 H2 zJ_225 rfl (k' := 47) rfl (D + 1) (by rw [zI_add ex59 (zI_c (by decide) (by decide)) (by omega) (by omega)]; omega) (by omega) (fun h60 Hh60 => ?_)
        refine zh zJ_225 (i := (2, 0, 0, 0)) rfl rfl (k' := 48) (lo' := [(0, .ref a)]) (st' := [.ref a]) (h' := h60) rfl ?_
        refine zcl (xs := []) (rest := []) Hh60 zJ_225 rfl (k' := 49) rfl (by omega) rfl rfl (Nat.le_of_ble_eq_true rfl) (M' := z_m225) rfl (Nat.le_of_ble_eq_true rfl) (gA (by omega) (by omega) (by omega) Hh60) (fun v h61 q => ?_)
        obtain ⟨c3, P3, Q3, D3, S3, g3, rfl, H3, h3⟩ := q
        show z_ok sx d 225 49 [(0, .ref a)] [.int c3] h61 _
        refine zh_if zJ_225 (a := 52) (b := 1) (z := 0) rfl (fun hc62 => ?_) (fun hc62 => ?_)
        · obtain ⟨-, rfl, h5, h6⟩ := (h3.resolve_left (fun e => zcmp_ne.mp hc62 (by rw [e])))
          have h7 := h6.1
          have b3 := H3.bd
          refine zh zJ_225 (i := (2, 0, 0, 0)) rfl rfl (k' := 53) (lo' := [(0, .ref a)]) (st' := [.ref a]) (h' := h61) rfl ?_
          refine zh zJ_225 (i := (27, 0, 0, 0)) rfl rfl (k' := 54) (lo' := [(0, .ref a)]) (st' := [.ref a, .ref a]) (h' := h61) rfl ?_
          refine zg13 H3 zJ_225 rfl (k' := 55) rfl (fun x63 ex63 => ?_)
          refine zh zJ_225 (i := (0, 0, 0, 1)) rfl rfl (k' := 56) (lo' := [(0, .ref a)]) (st' := [.int (Int32.ofInt (1)), .int x63, .ref a]) (h' := h61) rfl ?_
          refine zh zJ_225 (i := (9, 0, 0, 0)) rfl rfl (k' := 57) (lo' := [(0, .ref a)]) (st' := [.int (x63 - (Int32.ofInt (1))), .ref a]) (h' := h61) rfl ?_
          refine zp13 H3 zJ_225 rfl (k' := 58) rfl (D) (by rw [zI_sub ex63 (zI_c (by decide) (by decide)) (by omega) (by omega)]; omega) (by omega) (fun h64 Hh64 => ?_)
          refine zh zJ_225 (i := (2, 0, 0, 0)) rfl rfl (k' := 59) (lo' := [(0, .ref a)]) (st' := [.ref a]) (h' := h64) rfl ?_
          refine zh zJ_225 (i := (0, 0, 0, 12)) rfl rfl (k' := 60) (lo' := [(0, .ref a)]) (st' := [.int (Int32.ofInt (12)), .ref a]) (h' := h64) rfl ?_
          refine zh zJ_225 (i := (0, 0, 0, 0)) rfl rfl (k' := 61) (lo' := [(0, .ref a)]) (st' := [.int (Int32.ofInt (0)), .int (Int32.ofInt (12)), .ref a]) (h' := h64) rfl ?_
          refine zcl (xs := [.int (Int32.ofInt (0)), .int (Int32.ofInt (12))]) (rest := []) Hh64 zJ_225 rfl (k' := 62) rfl (by omega) rfl rfl (Nat.le_of_ble_eq_true rfl) (M' := z_m221) rfl (Nat.le_of_ble_eq_true rfl) (zS_221 _ _ (by omega) Hh64) (fun v h65 q => ?_)
          obtain ⟨rfl, H4⟩ := q
          show z_ok sx d 225 62 [(0, .ref a)] [] h65 _
          refine zh zJ_225 (i := (0, 0, 0, 1)) rfl rfl (k' := 63) (lo' := [(0, .ref a)]) (st' := [.int (Int32.ofInt (1))]) (h' := h65) rfl ?_
          refine zh_iret zJ_225 (a := 0) (b := 0) (z := 0) rfl (Or.inr ⟨rfl, Or.inr rfl⟩) ?_
          exact ⟨_, rfl, rfl, rfl, _, P3, Q3, D, S3 + 1, _, rfl, H4, Or.inr ⟨rfl, rfl, by omega, h6.not (by omega) (by decide)⟩⟩
        · refine zh zJ_225 (i := (0, 0, 0, 0)) rfl rfl (k' := 51) (lo' := [(0, .ref a)]) (st' := [.int (Int32.ofInt (0))]) (h' := h61) rfl ?_
          refine zh_iret zJ_225 (a := 0) (b := 0) (z := 0) rfl (Or.inr ⟨rfl, Or.inl rfl⟩) ?_
          exact ⟨_, rfl, rfl, rfl, _, P3, Q3, D3, S3, g3, rfl, H3, Or.inl rfl⟩
      · refine zh zJ_225 (i := (0, 0, 0, 0)) rfl rfl (k' := 40) (lo' := [(0, .ref a)]) (st' := [.int (Int32.ofInt (0))]) (h' := h55) rfl ?_
        refine zh_iret zJ_225 (a := 0) (b := 0) (z := 0) rfl (Or.inr ⟨rfl, Or.inl rfl⟩) ?_
        exact ⟨_, rfl, rfl, rfl, _, P2, Q2, D, S, g, rfl, H2, Or.inl rfl⟩
  · have l3 := (l2.resolve_left (fun e => hc45 (by rw [e]; rfl))).2
    refine zh zJ_225 (i := (2, 0, 0, 0)) rfl rfl (k' := 5) (lo' := [(0, .ref a)]) (st' := [.ref a]) (h' := h44) rfl ?_
    refine zg13 H1 zJ_225 rfl (k' := 6) rfl (fun x46 ex46 => ?_)
    refine zh zJ_225 (i := (0, 0, 0, 6)) rfl rfl (k' := 7) (lo' := [(0, .ref a)]) (st' := [.int (Int32.ofInt (6)), .int x46]) (h' := h44) rfl ?_
    refine zh_icmp zJ_225 (a := 10) (b := 1) (z := 0) rfl (fun hc47 => ?_) (fun hc47 => ?_)
    · have hD : D < 6 := (by have := zcmp_ne.mp hc47; rw [zI_c (by decide) (by decide)] at this; omega)
      obtain ⟨m, rfl⟩ : ∃ m, n = m + 1 := ⟨n - 1, by omega⟩
      obtain ⟨gA, gC⟩ := ih m rfl
      refine zh zJ_225 (i := (2, 0, 0, 0)) rfl rfl (k' := 11) (lo' := [(0, .ref a)]) (st' := [.ref a]) (h' := h44) rfl ?_
      refine zh zJ_225 (i := (27, 0, 0, 0)) rfl rfl (k' := 12) (lo' := [(0, .ref a)]) (st' := [.ref a, .ref a]) (h' := h44) rfl ?_
      refine zg13 H1 zJ_225 rfl (k' := 13) rfl (fun x48 ex48 => ?_)
      refine zh zJ_225 (i := (0, 0, 0, 1)) rfl rfl (k' := 14) (lo' := [(0, .ref a)]) (st' := [.int (Int32.ofInt (1)), .int x48, .ref a]) (h' := h44) rfl ?_
      refine zh zJ_225 (i := (8, 0, 0, 0)) rfl rfl (k' := 15) (lo' := [(0, .ref a)]) (st' := [.int (x48 + (Int32.ofInt (1))), .ref a]) (h' := h44) rfl ?_
      refine zp13 H1 zJ_225 rfl (k' := 16) rfl (D + 1) (by rw [zI_add ex48 (zI_c (by decide) (by decide)) (by omega) (by omega)]; omega) (by omega) (fun h49 Hh49 => ?_)
      refine zh zJ_225 (i := (2, 0, 0, 0)) rfl rfl (k' := 17) (lo' := [(0, .ref a)]) (st' := [.ref a]) (h' := h49) rfl ?_
      refine zcl (xs := []) (rest := []) Hh49 zJ_225 rfl (k' := 18) rfl (by omega) rfl rfl (Nat.le_of_ble_eq_true rfl) (M' := z_m227) rfl (Nat.le_of_ble_eq_true rfl) (gC (by omega) (by omega) (by omega) Hh49) (fun v h50 q => ?_)
      obtain ⟨c3, P3, Q3, D3, S3, g3, rfl, H3, h3⟩ := q
      show z_ok sx d 225 18 [(0, .ref a)] [.int c3] h50 _
      refine zh_if zJ_225 (a := 21) (b := 1) (z := 0) rfl (fun hc51 => ?_) (fun hc51 => ?_)
      · obtain ⟨-, rfl, h5, h6⟩ := (h3.resolve_left (fun e => zcmp_ne.mp hc51 (by rw [e])))
        have h7 := h6.1
        refine zh zJ_225 (i := (2, 0, 0, 0)) rfl rfl (k' := 22) (lo' := [(0, .ref a)]) (st' := [.ref a]) (h' := h50) rfl ?_
        refine zh zJ_225 (i := (27, 0, 0, 0)) rfl rfl (k' := 23) (lo' := [(0, .ref a)]) (st' := [.ref a, .ref a]) (h' := h50) rfl ?_
        refine zg13 H3 zJ_225 rfl (k' := 24) rfl (fun x52 ex52 => ?_)
        refine zh zJ_225 (i := (0, 0, 0, 1)) rfl rfl (k' := 25) (lo' := [(0, .ref a)]) (st' := [.int (Int32.ofInt (1)), .int x52, .ref a]) (h' := h50) rfl ?_
        refine zh zJ_225 (i := (9, 0, 0, 0)) rfl rfl (k' := 26) (lo' := [(0, .ref a)]) (st' := [.int (x52 - (Int32.ofInt (1))), .ref a]) (h' := h50) rfl ?_
        refine zp13 H3 zJ_225 rfl (k' := 27) rfl (D) (by rw [zI_sub ex52 (zI_c (by decide) (by decide)) (by omega) (by omega)]; omega) (by omega) (fun h53 Hh53 => ?_)
        refine zh zJ_225 (i := (2, 0, 0, 0)) rfl rfl (k' := 28) (lo' := [(0, .ref a)]) (st' := [.ref a]) (h' := h53) rfl ?_
        refine zh zJ_225 (i := (0, 0, 0, 41)) rfl rfl (k' := 29) (lo' := [(0, .ref a)]) (st' := [.int (Int32.ofInt (41)), .ref a]) (h' := h53) rfl ?_
        refine zcl (xs := [.int (Int32.ofInt (41))]) (rest := []) Hh53 zJ_225 rfl (k' := 30) rfl (by omega) rfl rfl (Nat.le_of_ble_eq_true rfl) (M' := z_m206) rfl (Nat.le_of_ble_eq_true rfl) (zS_206 (by omega) _ Hh53) (fun v h54 q => ?_)
        obtain ⟨c4, P4, Q4, rfl, H4, l4, l5⟩ := q
        show z_ok sx d 225 30 [(0, .ref a)] [.int c4] h54 _
        refine zh_iret zJ_225 (a := 0) (b := 0) (z := 0) rfl (Or.inr ⟨rfl, l5.imp id (fun q => q.1)⟩) ?_
        exact ⟨_, rfl, rfl, rfl, _, P4, Q4, D, S3, g3, rfl, H4, l5.imp id (fun q => ⟨q.1, rfl, by omega, h6⟩)⟩
      · refine zh zJ_225 (i := (0, 0, 0, 0)) rfl rfl (k' := 20) (lo' := [(0, .ref a)]) (st' := [.int (Int32.ofInt (0))]) (h' := h50) rfl ?_
        refine zh_iret zJ_225 (a := 0) (b := 0) (z := 0) rfl (Or.inr ⟨rfl, Or.inl rfl⟩) ?_
        exact ⟨_, rfl, rfl, rfl, _, P3, Q3, D3, S3, g3, rfl, H3, Or.inl rfl⟩
    · refine zh zJ_225 (i := (0, 0, 0, 0)) rfl rfl (k' := 9) (lo' := [(0, .ref a)]) (st' := [.int (Int32.ofInt (0))]) (h' := h44) rfl ?_
      refine zh_iret zJ_225 (a := 0) (b := 0) (z := 0) rfl (Or.inr ⟨rfl, Or.inl rfl⟩) ?_
      exact ⟨_, rfl, rfl, rfl, _, P1, Q1, D, S, g, rfl, H1, Or.inl rfl⟩
theorem zJ_226 : zJ3 226 z_m226 z_c226 z_h226 := ⟨rfl, rfl, rfl⟩
set_option maxRecDepth 100000 in
theorem zLp_226 {sx : zX} {ty : List Nat} {h0 : zH} {a w b E : Nat} {P D S d : Nat} {g : Nat → Int32} {N : Nat} (hA : zGA N) (hN : D + N = 6) (hd : 13 + 3 * N ≤ d) (hS : S + 1 ≤ P) : ∀ (n P1 Q1 S1 : Nat) (g1 : Nat → Int32) (h : zH), 400 - P1 < n → zPS ty h0 a w b E P1 Q1 D S1 g1 h → S1 + P ≤ P1 + S → zCd S g S1 g1 1 → z_ok sx d 226 5 [(0, .ref a)] [] h (zRq (zGs ty h0 a w b E P D S g))
  | 0, _, _, _, _, _, hn, _, _, _ => absurd hn (Nat.not_lt_zero _)
  | n + 1, P1, Q1, S1, g1, h, hn, H, hP1, hcd => by
    obtain ⟨bE, bP, bQ, bD, bS⟩ := H.bd
    refine zh zJ_226 (i := (2, 0, 0, 0)) rfl rfl (k' := 6) (lo' := [(0, .ref a)]) (st' := [.ref a]) (h' := h) rfl ?_
    refine zldc zJ_226 rfl (k' := 7) rfl (by decide +kernel) ?_
    refine zcl (xs := [.ref (zB + 64)]) (rest := []) H zJ_226 rfl (k' := 8) rfl (by omega) rfl rfl (Nat.le_of_ble_eq_true rfl) (M' := z_m205) rfl (Nat.le_of_ble_eq_true rfl) (zS_205 (t := 64) (by omega) rfl (by decide) (by decide) H) (fun v h74 q => ?_)
    obtain ⟨c, P2, Q2, rfl, H2, l1, l2⟩ := q
    show z_ok sx d 226 8 [(0, .ref a)] [.int c] h74 _
    have b2 := H2.bd
    refine zh_if zJ_226 (a := 19) (b := 0) (z := 0) rfl (fun hc75 => ?_) (fun hc75 => ?_)
    · refine zh zJ_226 (i := (0, 0, 0, 1)) rfl rfl (k' := 20) (lo' := [(0, .ref a)]) (st' := [.int (Int32.ofInt (1))]) (h' := h74) rfl ?_
      refine zh_iret zJ_226 (a := 0) (b := 0) (z := 0) rfl (Or.inr ⟨rfl, Or.inr rfl⟩) ?_
      exact ⟨_, rfl, rfl, rfl, _, P2, Q2, D, S1, g1, rfl, H2, Or.inr ⟨rfl, rfl, by omega, hcd⟩⟩
    · have l3 := (l2.resolve_left (fun e => hc75 (by rw [e]; rfl))).2
      refine zh zJ_226 (i := (2, 0, 0, 0)) rfl rfl (k' := 10) (lo' := [(0, .ref a)]) (st' := [.ref a]) (h' := h74) rfl ?_
      refine zcl (xs := []) (rest := []) H2 zJ_226 rfl (k' := 11) rfl (by omega) rfl rfl (Nat.le_of_ble_eq_true rfl) (M' := z_m225) rfl (Nat.le_of_ble_eq_true rfl) (hA (by omega) (by omega) (by omega) H2) (fun v h76 q => ?_)
      obtain ⟨c3, P3, Q3, D3, S3, g3, rfl, H3, h3⟩ := q
      show z_ok sx d 226 11 [(0, .ref a)] [.int c3] h76 _
      refine zh_if zJ_226 (a := 14) (b := 1) (z := 0) rfl (fun hc77 => ?_) (fun hc77 => ?_)
      · obtain ⟨-, rfl, h5, h6⟩ := (h3.resolve_left (fun e => zcmp_ne.mp hc77 (by rw [e])))
        have h7 := h6.1
        have b3 := H3.bd
        refine zh zJ_226 (i := (2, 0, 0, 0)) rfl rfl (k' := 15) (lo' := [(0, .ref a)]) (st' := [.ref a]) (h' := h76) rfl ?_
        refine zh zJ_226 (i := (0, 0, 0, 13)) rfl rfl (k' := 16) (lo' := [(0, .ref a)]) (st' := [.int (Int32.ofInt (13)), .ref a]) (h' := h76) rfl ?_
        refine zh zJ_226 (i := (0, 0, 0, 0)) rfl rfl (k' := 17) (lo' := [(0, .ref a)]) (st' := [.int (Int32.ofInt (0)), .int (Int32.ofInt (13)), .ref a]) (h' := h76) rfl ?_
        refine zcl (xs := [.int (Int32.ofInt (0)), .int (Int32.ofInt (13))]) (rest := []) H3 zJ_226 rfl (k' := 18) rfl (by omega) rfl rfl (Nat.le_of_ble_eq_true rfl) (M' := z_m221) rfl (Nat.le_of_ble_eq_true rfl) (zS_221 _ _ (by omega) H3) (fun v h78 q => ?_)
        obtain ⟨rfl, H4⟩ := q
        show z_ok sx d 226 18 [(0, .ref a)] [] h78 _
        refine zh zJ_226 (i := (30, 5, 0, 0)) rfl rfl (k' := 5) (lo' := [(0, .ref a)]) (st' := []) (h' := h78) rfl ?_
        exact zLp_226 hA hN hd hS n P3 Q3 (S3 + 1) _ _ (by omega) H4 (by omega) ((hcd.two h6).bin (by omega) (by decide) (by decide))
      · refine zh zJ_226 (i := (0, 0, 0, 0)) rfl rfl (k' := 13) (lo' := [(0, .ref a)]) (st' := [.int (Int32.ofInt (0))]) (h' := h76) rfl ?_
        refine zh_iret zJ_226 (a := 0) (b := 0) (z := 0) rfl (Or.inr ⟨rfl, Or.inl rfl⟩) ?_
        exact ⟨_, rfl, rfl, rfl, _, P3, Q3, D3, S3, g3, rfl, H3, Or.inl rfl⟩
set_option maxRecDepth 100000 in
theorem zS_226 {sx : zX} {ty : List Nat} {h0 : zH} {a w b E : Nat} {P Q D S d : Nat} {g : Nat → Int32} {h : zH} {N : Nat} (hA : zGA N) (hN : D + N = 6) (hd : 13 + 3 * N ≤ d) (hS : S + 1 ≤ P) (H : zPS ty h0 a w b E P Q D S g h) : z_ok sx d 226 0 (lv_args 0 [.ref a]) [] h (zRq (zGs ty h0 a w b E P D S g)) := by
  show z_ok sx d 226 0 [(0, .ref a)] [] h _
  refine zh zJ_226 (i := (2, 0, 0, 0)) rfl rfl (k' := 1) (lo' := [(0, .ref a)]) (st' := [.ref a]) (h' := h) rfl ?_
  refine zcl (xs := []) (rest := []) H zJ_226 rfl (k' := 2) rfl (by omega) rfl rfl (Nat.le_of_ble_eq_true rfl) (M' := z_m225) rfl (Nat.le_of_ble_eq_true rfl) (hA (by omega) (by omega) (by omega) H) (fun v h79 q => ?_)
  obtain ⟨c3, P3, Q3, D3, S3, g3, rfl, H3, h3⟩ := q
  show z_ok sx d 226 2 [(0, .ref a)] [.int c3] h79 _
  refine zh_if zJ_226 (a := 5) (b := 1) (z := 0) rfl (fun hc80 => ?_) (fun hc80 => ?_)
  · obtain ⟨-, rfl, h5, h6⟩ := (h3.resolve_left (fun e => zcmp_ne.mp hc80 (by rw [e])))
    exact zLp_226 hA hN hd hS 401 P3 Q3 S3 _ _ (by omega) H3 h5 h6
  · refine zh zJ_226 (i := (0, 0, 0, 0)) rfl rfl (k' := 4) (lo' := [(0, .ref a)]) (st' := [.int (Int32.ofInt (0))]) (h' := h79) rfl ?_
    refine zh_iret zJ_226 (a := 0) (b := 0) (z := 0) rfl (Or.inr ⟨rfl, Or.inl rfl⟩) ?_
    exact ⟨_, rfl, rfl, rfl, _, P3, Q3, D3, S3, g3, rfl, H3, Or.inl rfl⟩
theorem zJ_227 : zJ3 227 z_m227 z_c227 z_h227 := ⟨rfl, rfl, rfl⟩
set_option maxRecDepth 100000 in
theorem zLp_227 {sx : zX} {ty : List Nat} {h0 : zH} {a w b E : Nat} {P D S d : Nat} {g : Nat → Int32} {N : Nat} (hA : zGL N) (hN : D + N = 6) (hd : 14 + 3 * N ≤ d) (hS : S + 1 ≤ P) : ∀ (n P1 Q1 S1 : Nat) (g1 : Nat → Int32) (h : zH), 400 - P1 < n → zPS ty h0 a w b E P1 Q1 D S1 g1 h → S1 + P ≤ P1 + S → zCd S g S1 g1 1 → z_ok sx d 227 5 [(0, .ref a)] [] h (zRq (zGs ty h0 a w b E P D S g))
  | 0, _, _, _, _, _, hn, _, _, _ => absurd hn (Nat.not_lt_zero _)
  | n + 1, P1, Q1, S1, g1, h, hn, H, hP1, hcd => by
    obtain ⟨bE, bP, bQ, bD, bS⟩ := H.bd
    refine zh zJ_227 (i := (2, 0, 0, 0)) rfl rfl (k' := 6) (lo' := [(0, .ref a)]) (st' := [.ref a]) (h' := h) rfl ?_
    refine zldc zJ_227 rfl (k' := 7) rfl (by decide +kernel) ?_
    refine zcl (xs := [.ref (zB + 65)]) (rest := []) H zJ_227 rfl (k' := 8) rfl (by omega) rfl rfl (Nat.le_of_ble_eq_true rfl) (M' := z_m205) rfl (Nat.le_of_ble_eq_true rfl) (zS_205 (t := 65) (by omega) rfl (by decide) (by decide) H) (fun v h81 q => ?_)
    obtain ⟨c, P2, Q2, rfl, H2, l1, l2⟩ := q
    show z_ok sx d 227 8 [(0, .ref a)] [.int c] h81 _
    have b2 := H2.bd
    refine zh_if zJ_227 (a := 19) (b := 0) (z := 0) rfl (fun hc82 => ?_) (fun hc82 => ?_)
    · refine zh zJ_227 (i := (0, 0, 0, 1)) rfl rfl (k' := 20) (lo' := [(0, .ref a)]) (st' := [.int (Int32.ofInt (1))]) (h' := h81) rfl ?_
      refine zh_iret zJ_227 (a := 0) (b := 0) (z := 0) rfl (Or.inr ⟨rfl, Or.inr rfl⟩) ?_
      exact ⟨_, rfl, rfl, rfl, _, P2, Q2, D, S1, g1, rfl, H2, Or.inr ⟨rfl, rfl, by omega, hcd⟩⟩
    · have l3 := (l2.resolve_left (fun e => hc82 (by rw [e]; rfl))).2
      refine zh zJ_227 (i := (2, 0, 0, 0)) rfl rfl (k' := 10) (lo' := [(0, .ref a)]) (st' := [.ref a]) (h' := h81) rfl ?_
      refine zcl (xs := []) (rest := []) H2 zJ_227 rfl (k' := 11) rfl (by omega) rfl rfl (Nat.le_of_ble_eq_true rfl) (M' := z_m226) rfl (Nat.le_of_ble_eq_true rfl) (hA (by omega) (by omega) (by omega) H2) (fun v h83 q => ?_)
      obtain ⟨c3, P3, Q3, D3, S3, g3, rfl, H3, h3⟩ := q
      show z_ok sx d 227 11 [(0, .ref a)] [.int c3] h83 _
      refine zh_if zJ_227 (a := 14) (b := 1) (z := 0) rfl (fun hc84 => ?_) (fun hc84 => ?_)
      · obtain ⟨-, rfl, h5, h6⟩ := (h3.resolve_left (fun e => zcmp_ne.mp hc84 (by rw [e])))
        have h7 := h6.1
        have b3 := H3.bd
        refine zh zJ_227 (i := (2, 0, 0, 0)) rfl rfl (k' := 15) (lo' := [(0, .ref a)]) (st' := [.ref a]) (h' := h83) rfl ?_
        refine zh zJ_227 (i := (0, 0, 0, 14)) rfl rfl (k' := 16) (lo' := [(0, .ref a)]) (st' := [.int (Int32.ofInt (14)), .ref a]) (h' := h83) rfl ?_
        refine zh zJ_227 (i := (0, 0, 0, 0)) rfl rfl (k' := 17) (lo' := [(0, .ref a)]) (st' := [.int (Int32.ofInt (0)), .int (Int32.ofInt (14)), .ref a]) (h' := h83) rfl ?_
        refine zcl (xs := [.int (Int32.ofInt (0)), .int (Int32.ofInt (14))]) (rest := []) H3 zJ_227 rfl (k' := 18) rfl (by omega) rfl rfl (Nat.le_of_ble_eq_true rfl) (M' := z_m221) rfl (Nat.le_of_ble_eq_true rfl) (zS_221 _ _ (by omega) H3) (fun v h85 q => ?_)
        obtain ⟨rfl, H4⟩ := q
        show z_ok sx d 227 18 [(0, .ref a)] [] h85 _
        refine zh zJ_227 (i := (30, 5, 0, 0)) rfl rfl (k' := 5) (lo' := [(0, .ref a)]) (st' := []) (h' := h85) rfl ?_
        exact zLp_227 hA hN hd hS n P3 Q3 (S3 + 1) _ _ (by omega) H4 (by omega) ((hcd.two h6).bin (by omega) (by decide) (by decide))
      · refine zh zJ_227 (i := (0, 0, 0, 0)) rfl rfl (k' := 13) (lo' := [(0, .ref a)]) (st' := [.int (Int32.ofInt (0))]) (h' := h83) rfl ?_
        refine zh_iret zJ_227 (a := 0) (b := 0) (z := 0) rfl (Or.inr ⟨rfl, Or.inl rfl⟩) ?_
        exact ⟨_, rfl, rfl, rfl, _, P3, Q3, D3, S3, g3, rfl, H3, Or.inl rfl⟩
set_option maxRecDepth 100000 in
theorem zS_227 {sx : zX} {ty : List Nat} {h0 : zH} {a w b E : Nat} {P Q D S d : Nat} {g : Nat → Int32} {h : zH} {N : Nat} (hA : zGL N) (hN : D + N = 6) (hd : 14 + 3 * N ≤ d) (hS : S + 1 ≤ P) (H : zPS ty h0 a w b E P Q D S g h) : z_ok sx d 227 0 (lv_args 0 [.ref a]) [] h (zRq (zGs ty h0 a w b E P D S g)) := by
  show z_ok sx d 227 0 [(0, .ref a)] [] h _
  refine zh zJ_227 (i := (2, 0, 0, 0)) rfl rfl (k' := 1) (lo' := [(0, .ref a)]) (st' := [.ref a]) (h' := h) rfl ?_
  refine zcl (xs := []) (rest := []) H zJ_227 rfl (k' := 2) rfl (by omega) rfl rfl (Nat.le_of_ble_eq_true rfl) (M' := z_m226) rfl (Nat.le_of_ble_eq_true rfl) (hA (by omega) (by omega) (by omega) H) (fun v h86 q => ?_)
  obtain ⟨c3, P3, Q3, D3, S3, g3, rfl, H3, h3⟩ := q
  show z_ok sx d 227 2 [(0, .ref a)] [.int c3] h86 _
  refine zh_if zJ_227 (a := 5) (b := 1) (z := 0) rfl (fun hc87 => ?_) (fun hc87 => ?_)
  · obtain ⟨-, rfl, h5, h6⟩ := (h3.resolve_left (fun e => zcmp_ne.mp hc87 (by rw [e])))
    exact zLp_227 hA hN hd hS 401 P3 Q3 S3 _ _ (by omega) H3 h5 h6
  · refine zh zJ_227 (i := (0, 0, 0, 0)) rfl rfl (k' := 4) (lo' := [(0, .ref a)]) (st' := [.int (Int32.ofInt (0))]) (h' := h86) rfl ?_
    refine zh_iret zJ_227 (a := 0) (b := 0) (z := 0) rfl (Or.inr ⟨rfl, Or.inl rfl⟩) ?_
    exact ⟨_, rfl, rfl, rfl, _, P3, Q3, D3, S3, g3, rfl, H3, Or.inl rfl⟩
theorem zGr_all : ∀ n, zGA n ∧ zGC n
  | 0 => by
    have hA : zGA 0 := zS_225 0 (fun m e => by omega)
    have hL : zGL 0 := fun hn hd hS H => zS_226 hA hn hd hS H
    exact ⟨hA, fun hn hd hS H => zS_227 hL hn hd hS H⟩
  | n + 1 => by
    have hA : zGA (n + 1) := zS_225 (n + 1) (fun m e => by
      have e : m = n := by omega
      subst e
      exact zGr_all m)
    have hL : zGL (n + 1) := fun hn hd hS H => zS_226 hA hn hd hS H
    exact ⟨hA, fun hn hd hS H => zS_227 hL hn hd hS H⟩
end
section
/-! the reference's reader: lines of a law; printed with wip/gen/gen_rd4.py -/
theorem zupd_at {f : Nat → Int32} {i : Nat} {x : Int32} : upd f i x i = x := if_pos rfl
theorem zupd_ne {f : Nat → Int32} {i j : Nat} {x : Int32} (h : j ≠ i) : upd f i x j = f j := if_neg h
theorem zPs_cg {g g' : Nat → Int32} : ∀ {n i t t' : Nat}, (∀ k, 1286 ≤ k → k < 1286 + 2 * (i + n) → g' k = g k) → zPs g n i t t' → zPs g' n i t t'
  | 0, _, _, _, _, h => h
  | n + 1, i, t, t', hc, h => by
    obtain ⟨a1, a2⟩ := h
    refine ⟨a1, ?_⟩
    have hc' : ∀ k, 1286 ≤ k → k < 1286 + 2 * (i + 1 + n) → g' k = g k := fun k h1 hk => hc k h1 (by omega)
    rw [hc (1286 + 2 * i) (by omega) (by omega)]
    split
    · next h3 => rw [if_pos h3] at a2; exact ⟨a2.1, zPs_cg hc' a2.2⟩
    · next h3 =>
      rw [if_neg h3] at a2
      split
      · next h4 => rw [if_pos h4] at a2; exact ⟨a2.1, zPs_cg hc' a2.2⟩
      · next h4 => rw [if_neg h4] at a2; exact ⟨a2.1, zPs_cg hc' a2.2⟩
/-- a line of the draft, its code from s to e -/
noncomputable def zLd (g : Nat → Int32) (l s e : Nat) : Prop := (g (1240 + 4 * l)).toInt = (s : Int) ∧ (g (1241 + 4 * l)).toInt = (e : Int) ∧ s ≤ e ∧ ∃ t', zPs g (e - s) s 0 t'
noncomputable def zLne (N S : Nat) (g : Nat → Int32) (S' : Nat) (g' : Nat → Int32) : Prop := zLd g' N S S' ∧ ∀ k, (k < 1238 + 4 * N ∨ (1286 ≤ k ∧ k < 1286 + 2 * S)) → g' k = g k
noncomputable def zRL (ty : List Nat) (h0 : zH) (a w b E S N : Nat) (g : Nat → Int32) : Option Value → zH → Prop := fun r h' => ∃ (c : Int32) (P' Q' D' S' : Nat) (g' : Nat → Int32), r = some (.int c) ∧ zPS ty h0 a w b E P' Q' D' S' g' h' ∧ (c = 0 ∨ (c = 1 ∧ N ≤ 11 ∧ S' ≤ P' ∧ zLne N S g S' g'))
theorem zJ_228 : zJ3 228 z_m228 z_c228 z_h228 := ⟨rfl, rfl, rfl⟩
set_option maxRecDepth 100000 in
theorem zTl_228 {sx : zX} {ty : List Nat} {h0 : zH} {a w b E : Nat} {D S d : Nat} {g : Nat → Int32} {h : zH} {P1 Q1 S1 N : Nat} {g1 : Nat → Int32} {kv nn : Int32} (ek : kv.toInt = ((1238 + 4 * N : Nat) : Int)) (hN : N ≤ 11) (H : zPS ty h0 a w b E P1 Q1 D S1 g1 h) (hP : S1 ≤ P1) (hz : ∀ v : Int32, v.toInt = (S1 : Int) → zLne N S g S1 (upd g1 (1241 + 4 * N) v)) : z_ok sx d 228 75 [(2, .int kv), (0, .ref a), (1, .int nn)] [] h (zRq (zRL ty h0 a w b E S N g)) := by
  obtain ⟨bE, bP, bQ, bD, bS⟩ := H.bd
  refine zh zJ_228 (i := (2, 0, 0, 0)) rfl rfl (k' := 76) (lo' := [(2, .int kv), (0, .ref a), (1, .int nn)]) (st' := [.ref a]) (h' := h) rfl ?_
  refine zg1 H zJ_228 rfl (k' := 77) rfl ?_
  refine zh zJ_228 (i := (1, 2, 0, 0)) rfl rfl (k' := 78) (lo' := [(2, .int kv), (0, .ref a), (1, .int nn)]) (st' := [.int kv, .ref w]) (h' := h) rfl ?_
  refine zh zJ_228 (i := (0, 0, 0, 3)) rfl rfl (k' := 79) (lo' := [(2, .int kv), (0, .ref a), (1, .int nn)]) (st' := [.int (Int32.ofInt (3)), .int kv, .ref w]) (h' := h) rfl ?_
  refine zh zJ_228 (i := (8, 0, 0, 0)) rfl rfl (k' := 80) (lo' := [(2, .int kv), (0, .ref a), (1, .int nn)]) (st' := [.int (kv + (Int32.ofInt (3))), .ref w]) (h' := h) rfl ?_
  refine zh zJ_228 (i := (2, 0, 0, 0)) rfl rfl (k' := 81) (lo' := [(2, .int kv), (0, .ref a), (1, .int nn)]) (st' := [.ref a, .int (kv + (Int32.ofInt (3))), .ref w]) (h' := h) rfl ?_
  refine zg16 H zJ_228 rfl (k' := 82) rfl (fun x1 ex1 => ?_)
  refine zpw H zJ_228 rfl (k' := 83) rfl (1241 + 4 * N) (by rw [zI_add ek (zI_c (by decide) (by decide)) (by omega) (by omega)]; omega) (by omega) (by omega) (fun h2 Hh2 => ?_)
  refine zh zJ_228 (i := (0, 0, 0, 1)) rfl rfl (k' := 84) (lo' := [(2, .int kv), (0, .ref a), (1, .int nn)]) (st' := [.int (Int32.ofInt (1))]) (h' := h2) rfl ?_
  refine zh_iret zJ_228 (a := 0) (b := 0) (z := 0) rfl (Or.inr ⟨rfl, Or.inr rfl⟩) ?_
  exact ⟨_, rfl, rfl, rfl, _, P1, Q1, D, S1, _, rfl, Hh2, Or.inr ⟨rfl, hN, hP, hz _ ex1⟩⟩
set_option maxRecDepth 100000 in
theorem zTm_228 {sx : zX} {ty : List Nat} {h0 : zH} {a w b E : Nat} {P Q D S d : Nat} {g : Nat → Int32} {h : zH} {N : Nat} {kv nn t : Int32} (hd : 33 ≤ d) (ek : kv.toInt = ((1238 + 4 * N : Nat) : Int)) (hN : N ≤ 11) (hP : S ≤ P) (H : zPS ty h0 a w b E P Q D S g h) : z_ok sx d 228 28 [(2, .int kv), (0, .ref a), (1, .int nn)] [.int t, .int kv, .ref w] h (zRq (zRL ty h0 a w b E S N g)) := by
  obtain ⟨bE, bP, bQ, bD, bS⟩ := H.bd
  refine zpw H zJ_228 rfl (k' := 29) rfl (1238 + 4 * N) ek (by omega) (by omega) (fun h3 Hh3 => ?_)
  refine zh zJ_228 (i := (2, 0, 0, 0)) rfl rfl (k' := 30) (lo' := [(2, .int kv), (0, .ref a), (1, .int nn)]) (st' := [.ref a]) (h' := h3) rfl ?_
  refine zg1 Hh3 zJ_228 rfl (k' := 31) rfl ?_
  refine zh zJ_228 (i := (1, 2, 0, 0)) rfl rfl (k' := 32) (lo' := [(2, .int kv), (0, .ref a), (1, .int nn)]) (st' := [.int kv, .ref w]) (h' := h3) rfl ?_
  refine zlwd Hh3 zJ_228 rfl (k' := 33) rfl (1238 + 4 * N) ek (by omega) ?_
  refine zh_if zJ_228 (a := 36) (b := 3) (z := 0) rfl (fun hc4 => ?_) (fun hc4 => ?_)
  · refine zh zJ_228 (i := (2, 0, 0, 0)) rfl rfl (k' := 37) (lo' := [(2, .int kv), (0, .ref a), (1, .int nn)]) (st' := [.ref a]) (h' := h3) rfl ?_
    refine zg1 Hh3 zJ_228 rfl (k' := 38) rfl ?_
    refine zh zJ_228 (i := (1, 2, 0, 0)) rfl rfl (k' := 39) (lo' := [(2, .int kv), (0, .ref a), (1, .int nn)]) (st' := [.int kv, .ref w]) (h' := h3) rfl ?_
    refine zh zJ_228 (i := (0, 0, 0, 1)) rfl rfl (k' := 40) (lo' := [(2, .int kv), (0, .ref a), (1, .int nn)]) (st' := [.int (Int32.ofInt (1)), .int kv, .ref w]) (h' := h3) rfl ?_
    refine zh zJ_228 (i := (8, 0, 0, 0)) rfl rfl (k' := 41) (lo' := [(2, .int kv), (0, .ref a), (1, .int nn)]) (st' := [.int (kv + (Int32.ofInt (1))), .ref w]) (h' := h3) rfl ?_
    refine zh zJ_228 (i := (2, 0, 0, 0)) rfl rfl (k' := 42) (lo' := [(2, .int kv), (0, .ref a), (1, .int nn)]) (st' := [.ref a, .int (kv + (Int32.ofInt (1))), .ref w]) (h' := h3) rfl ?_
    refine zh zJ_228 (i := (0, 0, 0, 0)) rfl rfl (k' := 43) (lo' := [(2, .int kv), (0, .ref a), (1, .int nn)]) (st' := [.int (Int32.ofInt (0)), .ref a, .int (kv + (Int32.ofInt (1))), .ref w]) (h' := h3) rfl ?_
    refine zh zJ_228 (i := (0, 0, 0, 20)) rfl rfl (k' := 44) (lo' := [(2, .int kv), (0, .ref a), (1, .int nn)]) (st' := [.int (Int32.ofInt (20)), .int (Int32.ofInt (0)), .ref a, .int (kv + (Int32.ofInt (1))), .ref w]) (h' := h3) rfl ?_
    refine zcl (xs := [.int (Int32.ofInt (20)), .int (Int32.ofInt (0))]) (rest := [.int (kv + (Int32.ofInt (1))), .ref w]) Hh3 zJ_228 rfl (k' := 45) rfl (by omega) rfl rfl (Nat.le_of_ble_eq_true rfl) (M' := z_m207) rfl (Nat.le_of_ble_eq_true rfl) (zS_207 (by omega) _ _ Hh3) (fun v h5 q => ?_)
    obtain ⟨c, P2, Q2, rfl, H2, h3, h4⟩ := q
    show z_ok sx d 228 45 [(2, .int kv), (0, .ref a), (1, .int nn)] [.int c, .int (kv + (Int32.ofInt (1))), .ref w] h5 _
    have b2 := H2.bd
    refine zpw H2 zJ_228 rfl (k' := 46) rfl (1239 + 4 * N) (by rw [zI_add ek (zI_c (by decide) (by decide)) (by omega) (by omega)]; omega) (by omega) (by omega) (fun h6 Hh6 => ?_)
    refine zh zJ_228 (i := (2, 0, 0, 0)) rfl rfl (k' := 47) (lo' := [(2, .int kv), (0, .ref a), (1, .int nn)]) (st' := [.ref a]) (h' := h6) rfl ?_
    refine zg1 Hh6 zJ_228 rfl (k' := 48) rfl ?_
    refine zh zJ_228 (i := (1, 2, 0, 0)) rfl rfl (k' := 49) (lo' := [(2, .int kv), (0, .ref a), (1, .int nn)]) (st' := [.int kv, .ref w]) (h' := h6) rfl ?_
    refine zh zJ_228 (i := (0, 0, 0, 1)) rfl rfl (k' := 50) (lo' := [(2, .int kv), (0, .ref a), (1, .int nn)]) (st' := [.int (Int32.ofInt (1)), .int kv, .ref w]) (h' := h6) rfl ?_
    refine zh zJ_228 (i := (8, 0, 0, 0)) rfl rfl (k' := 51) (lo' := [(2, .int kv), (0, .ref a), (1, .int nn)]) (st' := [.int (kv + (Int32.ofInt (1))), .ref w]) (h' := h6) rfl ?_
    refine zlwd Hh6 zJ_228 rfl (k' := 52) rfl (1239 + 4 * N) (by rw [zI_add ek (zI_c (by decide) (by decide)) (by omega) (by omega)]; omega) (by omega) ?_
    rw [zupd_at]
    refine zh_if zJ_228 (a := 55) (b := 3) (z := 0) rfl (fun hc7 => ?_) (fun hc7 => ?_)
    · have h0c : 0 ≤ c.toInt := zcmp_ge.mp hc7
      have hP2 : P + 1 ≤ P2 := h4.resolve_left (by omega)
      refine zh zJ_228 (i := (2, 0, 0, 0)) rfl rfl (k' := 56) (lo' := [(2, .int kv), (0, .ref a), (1, .int nn)]) (st' := [.ref a]) (h' := h6) rfl ?_
      refine zg1 Hh6 zJ_228 rfl (k' := 57) rfl ?_
      refine zh zJ_228 (i := (1, 2, 0, 0)) rfl rfl (k' := 58) (lo' := [(2, .int kv), (0, .ref a), (1, .int nn)]) (st' := [.int kv, .ref w]) (h' := h6) rfl ?_
      refine zh zJ_228 (i := (0, 0, 0, 2)) rfl rfl (k' := 59) (lo' := [(2, .int kv), (0, .ref a), (1, .int nn)]) (st' := [.int (Int32.ofInt (2)), .int kv, .ref w]) (h' := h6) rfl ?_
      refine zh zJ_228 (i := (8, 0, 0, 0)) rfl rfl (k' := 60) (lo' := [(2, .int kv), (0, .ref a), (1, .int nn)]) (st' := [.int (kv + (Int32.ofInt (2))), .ref w]) (h' := h6) rfl ?_
      refine zh zJ_228 (i := (2, 0, 0, 0)) rfl rfl (k' := 61) (lo' := [(2, .int kv), (0, .ref a), (1, .int nn)]) (st' := [.ref a, .int (kv + (Int32.ofInt (2))), .ref w]) (h' := h6) rfl ?_
      refine zg16 Hh6 zJ_228 rfl (k' := 62) rfl (fun x8 ex8 => ?_)
      refine zpw Hh6 zJ_228 rfl (k' := 63) rfl (1240 + 4 * N) (by rw [zI_add ek (zI_c (by decide) (by decide)) (by omega) (by omega)]; omega) (by omega) (by omega) (fun h9 Hh9 => ?_)
      refine zh zJ_228 (i := (2, 0, 0, 0)) rfl rfl (k' := 64) (lo' := [(2, .int kv), (0, .ref a), (1, .int nn)]) (st' := [.ref a]) (h' := h9) rfl ?_
      refine zh zJ_228 (i := (0, 0, 0, 0)) rfl rfl (k' := 65) (lo' := [(2, .int kv), (0, .ref a), (1, .int nn)]) (st' := [.int (Int32.ofInt (0)), .ref a]) (h' := h9) rfl ?_
      refine zp13 Hh9 zJ_228 rfl (k' := 66) rfl (0) rfl (by omega) (fun h10 Hh10 => ?_)
      refine zh zJ_228 (i := (2, 0, 0, 0)) rfl rfl (k' := 67) (lo' := [(2, .int kv), (0, .ref a), (1, .int nn)]) (st' := [.ref a]) (h' := h10) rfl ?_
      refine zldc zJ_228 rfl (k' := 68) rfl (by decide +kernel) ?_
      refine zcl (xs := [.ref (zB + 67)]) (rest := []) Hh10 zJ_228 rfl (k' := 69) rfl (by omega) rfl rfl (Nat.le_of_ble_eq_true rfl) (M' := z_m205) rfl (Nat.le_of_ble_eq_true rfl) (zS_205 (t := 67) (by omega) rfl (by decide) (by decide) Hh10) (fun v h11 q => ?_)
      obtain ⟨c4, P4, Q4, rfl, H4, k1, k2⟩ := q
      show z_ok sx d 228 69 [(2, .int kv), (0, .ref a), (1, .int nn)] [.int c4] h11 _
      refine zh_if zJ_228 (a := 75) (b := 0) (z := 0) rfl (fun hc12 => ?_) (fun hc12 => ?_)
      · exact zTl_228 ek hN H4 (by omega) (fun v hv => ⟨⟨by rw [zupd_ne (by omega), zupd_at]; exact ex8, by rw [zupd_at]; exact hv, Nat.le_refl _, 0, by rw [Nat.sub_self]; rfl⟩, fun k hk => by rw [zupd_ne (by omega), zupd_ne (by omega), zupd_ne (by omega), zupd_ne (by omega)]⟩)
      · refine zh zJ_228 (i := (2, 0, 0, 0)) rfl rfl (k' := 71) (lo' := [(2, .int kv), (0, .ref a), (1, .int nn)]) (st' := [.ref a]) (h' := h11) rfl ?_
        refine zcl (xs := []) (rest := []) H4 zJ_228 rfl (k' := 72) rfl (by omega) rfl rfl (Nat.le_of_ble_eq_true rfl) (M' := z_m227) rfl (Nat.le_of_ble_eq_true rfl) ((zGr_all 6).2 (by omega) (by omega) (by omega) H4) (fun v h13 q => ?_)
        obtain ⟨c5, P5, Q5, D5, S5, g5, rfl, H5, h5⟩ := q
        show z_ok sx d 228 72 [(2, .int kv), (0, .ref a), (1, .int nn)] [.int c5] h13 _
        refine zh_if zJ_228 (a := 75) (b := 1) (z := 0) rfl (fun hc14 => ?_) (fun hc14 => ?_)
        · obtain ⟨-, rfl, h6, h7, h8, h9⟩ := (h5.resolve_left (fun e => zcmp_ne.mp hc14 (by rw [e])))
          have b5 := H5.bd
          exact zTl_228 ek hN H5 (by omega) (fun v hv => ⟨⟨by rw [zupd_ne (by omega), h8 _ (by omega), zupd_at]; exact ex8, by rw [zupd_at]; exact hv, h7, 1, zPs_cg (fun k k1 k2 => zupd_ne (by omega)) (h9 0 (by omega))⟩, fun k hk => by rw [zupd_ne (by omega), h8 k (by omega), zupd_ne (by omega), zupd_ne (by omega), zupd_ne (by omega)]⟩)
        · refine zh zJ_228 (i := (0, 0, 0, 0)) rfl rfl (k' := 74) (lo' := [(2, .int kv), (0, .ref a), (1, .int nn)]) (st' := [.int (Int32.ofInt (0))]) (h' := h13) rfl ?_
          refine zh_iret zJ_228 (a := 0) (b := 0) (z := 0) rfl (Or.inr ⟨rfl, Or.inl rfl⟩) ?_
          exact ⟨_, rfl, rfl, rfl, _, P5, Q5, D5, S5, g5, rfl, H5, Or.inl rfl⟩
    · refine zh zJ_228 (i := (0, 0, 0, 0)) rfl rfl (k' := 54) (lo' := [(2, .int kv), (0, .ref a), (1, .int nn)]) (st' := [.int (Int32.ofInt (0))]) (h' := h6) rfl ?_
      refine zh_iret zJ_228 (a := 0) (b := 0) (z := 0) rfl (Or.inr ⟨rfl, Or.inl rfl⟩) ?_
      exact ⟨_, rfl, rfl, rfl, _, P2, Q2, D, S, _, rfl, Hh6, Or.inl rfl⟩
  · refine zh zJ_228 (i := (0, 0, 0, 0)) rfl rfl (k' := 35) (lo' := [(2, .int kv), (0, .ref a), (1, .int nn)]) (st' := [.int (Int32.ofInt (0))]) (h' := h3) rfl ?_
    refine zh_iret zJ_228 (a := 0) (b := 0) (z := 0) rfl (Or.inr ⟨rfl, Or.inl rfl⟩) ?_
    exact ⟨_, rfl, rfl, rfl, _, P, Q, D, S, _, rfl, Hh3, Or.inl rfl⟩
set_option maxRecDepth 100000 in
theorem zS_228 {sx : zX} {ty : List Nat} {h0 : zH} {a w b E : Nat} {P Q D S d : Nat} {g : Nat → Int32} {h : zH} {N : Nat} {nn : Int32} (hd : 33 ≤ d) (en : nn.toInt = (N : Int)) (hN : N ≤ 11) (hP : S ≤ P) (H : zPS ty h0 a w b E P Q D S g h) : z_ok sx d 228 0 (lv_args 0 [.ref a, .int nn]) [] h (zRq (zRL ty h0 a w b E S N g)) := by
  show z_ok sx d 228 0 [(0, .ref a), (1, .int nn)] [] h _
  refine zh zJ_228 (i := (0, 0, 0, 1238)) rfl rfl (k' := 1) (lo' := [(0, .ref a), (1, .int nn)]) (st' := [.int (Int32.ofInt (1238))]) (h' := h) rfl ?_
  refine zh zJ_228 (i := (0, 0, 0, 4)) rfl rfl (k' := 2) (lo' := [(0, .ref a), (1, .int nn)]) (st' := [.int (Int32.ofInt (4)), .int (Int32.ofInt (1238))]) (h' := h) rfl ?_
  refine zh zJ_228 (i := (1, 1, 0, 0)) rfl rfl (k' := 3) (lo' := [(0, .ref a), (1, .int nn)]) (st' := [.int nn, .int (Int32.ofInt (4)), .int (Int32.ofInt (1238))]) (h' := h) rfl ?_
  refine zh zJ_228 (i := (10, 0, 0, 0)) rfl rfl (k' := 4) (lo' := [(0, .ref a), (1, .int nn)]) (st' := [.int ((Int32.ofInt (4)) * nn), .int (Int32.ofInt (1238))]) (h' := h) rfl ?_
  refine zh zJ_228 (i := (8, 0, 0, 0)) rfl rfl (k' := 5) (lo' := [(0, .ref a), (1, .int nn)]) (st' := [.int ((Int32.ofInt (1238)) + ((Int32.ofInt (4)) * nn))]) (h' := h) rfl ?_
  have ek : (((Int32.ofInt (1238)) + ((Int32.ofInt (4)) * nn))).toInt = ((1238 + 4 * N : Nat) : Int) := by
    rw [zI_add (zI_c (by decide) (by decide)) (zI_mul (zI_c (by decide) (by decide)) en (by omega) (by omega)) (by omega) (by omega)]
    omega
  generalize ((Int32.ofInt (1238)) + ((Int32.ofInt (4)) * nn)) = kv at ek ⊢
  refine zh zJ_228 (i := (4, 2, 0, 0)) rfl rfl (k' := 6) (lo' := [(2, .int kv), (0, .ref a), (1, .int nn)]) (st' := []) (h' := h) rfl ?_
  refine zh zJ_228 (i := (2, 0, 0, 0)) rfl rfl (k' := 7) (lo' := [(2, .int kv), (0, .ref a), (1, .int nn)]) (st' := [.ref a]) (h' := h) rfl ?_
  refine zg1 H zJ_228 rfl (k' := 8) rfl ?_
  refine zh zJ_228 (i := (1, 2, 0, 0)) rfl rfl (k' := 9) (lo' := [(2, .int kv), (0, .ref a), (1, .int nn)]) (st' := [.int kv, .ref w]) (h' := h) rfl ?_
  refine zh zJ_228 (i := (2, 0, 0, 0)) rfl rfl (k' := 10) (lo' := [(2, .int kv), (0, .ref a), (1, .int nn)]) (st' := [.ref a, .int kv, .ref w]) (h' := h) rfl ?_
  refine zldc zJ_228 rfl (k' := 11) rfl (by decide +kernel) ?_
  refine zcl (xs := [.ref (zB + 66)]) (rest := [.int kv, .ref w]) H zJ_228 rfl (k' := 12) rfl (by omega) rfl rfl (Nat.le_of_ble_eq_true rfl) (M' := z_m204) rfl (Nat.le_of_ble_eq_true rfl) (zS_204 (t := 66) (by omega) rfl (by decide) (by decide) H) (fun v h15 q => ?_)
  obtain ⟨rfl, c, rfl, hc⟩ := q
  show z_ok sx d 228 12 [(2, .int kv), (0, .ref a), (1, .int nn)] [.int c, .int kv, .ref w] h15 _
  refine zh_if zJ_228 (a := 15) (b := 0) (z := 0) rfl (fun hc16 => ?_) (fun hc16 => ?_)
  · refine zh zJ_228 (i := (2, 0, 0, 0)) rfl rfl (k' := 16) (lo' := [(2, .int kv), (0, .ref a), (1, .int nn)]) (st' := [.ref a, .int kv, .ref w]) (h' := h15) rfl ?_
    refine zldc zJ_228 rfl (k' := 17) rfl (by decide +kernel) ?_
    refine zcl (xs := [.ref (zB + 44)]) (rest := [.int kv, .ref w]) H zJ_228 rfl (k' := 18) rfl (by omega) rfl rfl (Nat.le_of_ble_eq_true rfl) (M' := z_m204) rfl (Nat.le_of_ble_eq_true rfl) (zS_204 (t := 44) (by omega) rfl (by decide) (by decide) H) (fun v h17 q => ?_)
    obtain ⟨rfl, c, rfl, hc⟩ := q
    show z_ok sx d 228 18 [(2, .int kv), (0, .ref a), (1, .int nn)] [.int c, .int kv, .ref w] h17 _
    refine zh_if zJ_228 (a := 21) (b := 0) (z := 0) rfl (fun hc18 => ?_) (fun hc18 => ?_)
    · refine zh zJ_228 (i := (2, 0, 0, 0)) rfl rfl (k' := 22) (lo' := [(2, .int kv), (0, .ref a), (1, .int nn)]) (st' := [.ref a, .int kv, .ref w]) (h' := h17) rfl ?_
      refine zldc zJ_228 rfl (k' := 23) rfl (by decide +kernel) ?_
      refine zcl (xs := [.ref (zB + 54)]) (rest := [.int kv, .ref w]) H zJ_228 rfl (k' := 24) rfl (by omega) rfl rfl (Nat.le_of_ble_eq_true rfl) (M' := z_m204) rfl (Nat.le_of_ble_eq_true rfl) (zS_204 (t := 54) (by omega) rfl (by decide) (by decide) H) (fun v h19 q => ?_)
      obtain ⟨rfl, c, rfl, hc⟩ := q
      show z_ok sx d 228 24 [(2, .int kv), (0, .ref a), (1, .int nn)] [.int c, .int kv, .ref w] h19 _
      refine zh_if zJ_228 (a := 27) (b := 0) (z := 0) rfl (fun hc20 => ?_) (fun hc20 => ?_)
      · refine zh zJ_228 (i := (0, 0, 0, -1)) rfl rfl (k' := 28) (lo' := [(2, .int kv), (0, .ref a), (1, .int nn)]) (st' := [.int (Int32.ofInt (-1)), .int kv, .ref w]) (h' := h19) rfl ?_
        exact zTm_228 (by omega) ek hN hP H
      · refine zh zJ_228 (i := (0, 0, 0, 2)) rfl rfl (k' := 26) (lo' := [(2, .int kv), (0, .ref a), (1, .int nn)]) (st' := [.int (Int32.ofInt (2)), .int kv, .ref w]) (h' := h19) rfl ?_
        refine zh zJ_228 (i := (30, 28, 0, 0)) rfl rfl (k' := 28) (lo' := [(2, .int kv), (0, .ref a), (1, .int nn)]) (st' := [.int (Int32.ofInt (2)), .int kv, .ref w]) (h' := h19) rfl ?_
        exact zTm_228 (by omega) ek hN hP H
    · refine zh zJ_228 (i := (0, 0, 0, 1)) rfl rfl (k' := 20) (lo' := [(2, .int kv), (0, .ref a), (1, .int nn)]) (st' := [.int (Int32.ofInt (1)), .int kv, .ref w]) (h' := h17) rfl ?_
      refine zh zJ_228 (i := (30, 28, 0, 0)) rfl rfl (k' := 28) (lo' := [(2, .int kv), (0, .ref a), (1, .int nn)]) (st' := [.int (Int32.ofInt (1)), .int kv, .ref w]) (h' := h17) rfl ?_
      exact zTm_228 (by omega) ek hN hP H
  · refine zh zJ_228 (i := (0, 0, 0, 0)) rfl rfl (k' := 14) (lo' := [(2, .int kv), (0, .ref a), (1, .int nn)]) (st' := [.int (Int32.ofInt (0)), .int kv, .ref w]) (h' := h15) rfl ?_
    refine zh zJ_228 (i := (30, 28, 0, 0)) rfl rfl (k' := 28) (lo' := [(2, .int kv), (0, .ref a), (1, .int nn)]) (st' := [.int (Int32.ofInt (0)), .int kv, .ref w]) (h' := h15) rfl ?_
    exact zTm_228 (by omega) ek hN hP H
theorem zJ_229 : zJ3 229 z_m229 z_c229 z_h229 := ⟨rfl, rfl, rfl⟩
set_option maxRecDepth 100000 in
theorem zS_229 {sx : zX} {ty : List Nat} {h0 : zH} {a w b E : Nat} {P Q D S d : Nat} {g : Nat → Int32} {h : zH} {N : Nat} {nn : Int32} (hd : 34 ≤ d) (en : nn.toInt = (N : Int)) (hP : S ≤ P) (H : zPS ty h0 a w b E P Q D S g h) : z_ok sx d 229 0 (lv_args 0 [.ref a, .int (Int32.ofInt (0)), .int nn]) [] h (zRq (zRL ty h0 a w b E S N g)) := by
  show z_ok sx d 229 0 [(0, .ref a), (1, .int (Int32.ofInt (0))), (2, .int nn)] [] h _
  refine zh zJ_229 (i := (2, 0, 0, 0)) rfl rfl (k' := 1) (lo' := [(0, .ref a), (1, .int (Int32.ofInt (0))), (2, .int nn)]) (st' := [.ref a]) (h' := h) rfl ?_
  refine zcl (xs := []) (rest := []) H zJ_229 rfl (k' := 2) rfl (by omega) rfl rfl (Nat.le_of_ble_eq_true rfl) (M' := z_m203) rfl (Nat.le_of_ble_eq_true rfl) (zS_203 (by omega) H) (fun v h21 q => ?_)
  obtain ⟨rfl, P1, Q1, h1, h2, H1⟩ := q
  show z_ok sx d 229 2 [(0, .ref a), (1, .int (Int32.ofInt (0))), (2, .int nn)] [] h21 _
  refine zh zJ_229 (i := (1, 2, 0, 0)) rfl rfl (k' := 3) (lo' := [(0, .ref a), (1, .int (Int32.ofInt (0))), (2, .int nn)]) (st' := [.int nn]) (h' := h21) rfl ?_
  refine zh zJ_229 (i := (1, 1, 0, 0)) rfl rfl (k' := 4) (lo' := [(0, .ref a), (1, .int (Int32.ofInt (0))), (2, .int nn)]) (st' := [.int (Int32.ofInt (0)), .int nn]) (h' := h21) rfl ?_
  refine zh_if zJ_229 (a := 7) (b := 0) (z := 0) rfl (fun hc22 => ?_) (fun hc22 => ?_)
  · refine zh zJ_229 (i := (0, 0, 0, 12)) rfl rfl (k' := 8) (lo' := [(0, .ref a), (1, .int (Int32.ofInt (0))), (2, .int nn)]) (st' := [.int (Int32.ofInt (12)), .int nn]) (h' := h21) rfl ?_
    refine zh_icmp zJ_229 (a := 21) (b := 3) (z := 0) rfl (fun hc23 => ?_) (fun hc23 => ?_)
    · refine zh zJ_229 (i := (0, 0, 0, 0)) rfl rfl (k' := 22) (lo' := [(0, .ref a), (1, .int (Int32.ofInt (0))), (2, .int nn)]) (st' := [.int (Int32.ofInt (0))]) (h' := h21) rfl ?_
      refine zh_iret zJ_229 (a := 0) (b := 0) (z := 0) rfl (Or.inr ⟨rfl, Or.inl rfl⟩) ?_
      exact ⟨_, rfl, rfl, rfl, _, P1, Q1, D, S, g, rfl, H1, Or.inl rfl⟩
    · have hN : N ≤ 11 := (by have := mt zcmp_ge.mpr hc23; rw [zI_c (by decide) (by decide)] at this; omega)
      refine zh zJ_229 (i := (1, 1, 0, 0)) rfl rfl (k' := 10) (lo' := [(0, .ref a), (1, .int (Int32.ofInt (0))), (2, .int nn)]) (st' := [.int (Int32.ofInt (0))]) (h' := h21) rfl ?_
      refine zh_if zJ_229 (a := 15) (b := 0) (z := 0) rfl (fun hc24 => ?_) (fun hc24 => ?_)
      · refine zh zJ_229 (i := (2, 0, 0, 0)) rfl rfl (k' := 16) (lo' := [(0, .ref a), (1, .int (Int32.ofInt (0))), (2, .int nn)]) (st' := [.ref a]) (h' := h21) rfl ?_
        refine zh zJ_229 (i := (1, 2, 0, 0)) rfl rfl (k' := 17) (lo' := [(0, .ref a), (1, .int (Int32.ofInt (0))), (2, .int nn)]) (st' := [.int nn, .ref a]) (h' := h21) rfl ?_
        refine zcl (xs := [.int nn]) (rest := []) H1 zJ_229 rfl (k' := 18) rfl (by omega) rfl rfl (Nat.le_of_ble_eq_true rfl) (M' := z_m228) rfl (Nat.le_of_ble_eq_true rfl) (zS_228 (by omega) en hN (by omega) H1) (fun v h25 q => ?_)
        obtain ⟨c5, P5, Q5, D5, S5, g5, rfl, H5, h5⟩ := q
        show z_ok sx d 229 18 [(0, .ref a), (1, .int (Int32.ofInt (0))), (2, .int nn)] [.int c5] h25 _
        refine zh_if zJ_229 (a := 21) (b := 0) (z := 0) rfl (fun hc26 => ?_) (fun hc26 => ?_)
        · refine zh zJ_229 (i := (0, 0, 0, 0)) rfl rfl (k' := 22) (lo' := [(0, .ref a), (1, .int (Int32.ofInt (0))), (2, .int nn)]) (st' := [.int (Int32.ofInt (0))]) (h' := h25) rfl ?_
          refine zh_iret zJ_229 (a := 0) (b := 0) (z := 0) rfl (Or.inr ⟨rfl, Or.inl rfl⟩) ?_
          exact ⟨_, rfl, rfl, rfl, _, P5, Q5, D5, S5, g5, rfl, H5, Or.inl rfl⟩
        · have h6 := (h5.resolve_left (fun e => hc26 (by rw [e]; rfl))).2
          refine zh zJ_229 (i := (0, 0, 0, 1)) rfl rfl (k' := 20) (lo' := [(0, .ref a), (1, .int (Int32.ofInt (0))), (2, .int nn)]) (st' := [.int (Int32.ofInt (1))]) (h' := h25) rfl ?_
          refine zh zJ_229 (i := (30, 22, 0, 0)) rfl rfl (k' := 22) (lo' := [(0, .ref a), (1, .int (Int32.ofInt (0))), (2, .int nn)]) (st' := [.int (Int32.ofInt (1))]) (h' := h25) rfl ?_
          refine zh_iret zJ_229 (a := 0) (b := 0) (z := 0) rfl (Or.inr ⟨rfl, Or.inr rfl⟩) ?_
          exact ⟨_, rfl, rfl, rfl, _, P5, Q5, D5, S5, g5, rfl, H5, Or.inr ⟨rfl, h6⟩⟩
      · exact absurd (show z_cmp 0 (Int32.ofInt (0)) 0 = true from rfl) hc24
  · exact absurd (show z_cmp 0 (Int32.ofInt (0)) 0 = true from rfl) hc22
theorem zJ_230 : zJ3 230 z_m230 z_c230 z_h230 := ⟨rfl, rfl, rfl⟩
noncomputable def zRA (ty : List Nat) (h0 : zH) (a w b E : Nat) : Option Value → zH → Prop := fun r h' => ∃ (c : Int32) (P' Q' D' S' : Nat) (g' : Nat → Int32), r = some (.int c) ∧ zPS ty h0 a w b E P' Q' D' S' g' h' ∧ (c.toInt = -1 ∨ ∃ N : Nat, N ≤ 12 ∧ c.toInt = (N : Int) ∧ ∀ l, l < N → ∃ s e, zLd g' l s e)
theorem zLne.keep {N S S' l s e : Nat} {g g' : Nat → Int32} (h : zLne N S g S' g') (hl : l < N) (hN : N ≤ 11) (he : e ≤ S) (H : zLd g l s e) : zLd g' l s e := by
  obtain ⟨h1, h2, h3, t', h4⟩ := H
  refine ⟨by rw [h.2 _ (Or.inl (by omega))]; exact h1, by rw [h.2 _ (Or.inl (by omega))]; exact h2, h3, t', zPs_cg (fun k k1 k2 => h.2 k (Or.inr ⟨k1, by omega⟩)) h4⟩
set_option maxRecDepth 100000 in
theorem zLp_230 {sx : zX} {ty : List Nat} {h0 : zH} {a w b E : Nat} {d : Nat} (hd : 35 ≤ d) : ∀ (n N P Q D S : Nat) (g : Nat → Int32) (h : zH) (nn : Int32), 12 < N + n → nn.toInt = (N : Int) → S ≤ P → zPS ty h0 a w b E P Q D S g h → (∀ l, l < N → ∃ s e, e ≤ S ∧ zLd g l s e) → z_ok sx d 230 16 [(2, .int nn), (0, .ref a), (1, .int (Int32.ofInt (0)))] [] h (zRq (zRA ty h0 a w b E))
  | 0, N, P, Q, D, S, g, h, nn, hn, en, hP, H, hlines => by
    obtain ⟨bE, bP, bQ, bD, bS⟩ := H.bd
    refine zh zJ_230 (i := (2, 0, 0, 0)) rfl rfl (k' := 17) (lo' := [(2, .int nn), (0, .ref a), (1, .int (Int32.ofInt (0)))]) (st' := [.ref a]) (h' := h) rfl ?_
    refine zh zJ_230 (i := (1, 1, 0, 0)) rfl rfl (k' := 18) (lo' := [(2, .int nn), (0, .ref a), (1, .int (Int32.ofInt (0)))]) (st' := [.int (Int32.ofInt (0)), .ref a]) (h' := h) rfl ?_
    refine zh zJ_230 (i := (1, 2, 0, 0)) rfl rfl (k' := 19) (lo' := [(2, .int nn), (0, .ref a), (1, .int (Int32.ofInt (0)))]) (st' := [.int nn, .int (Int32.ofInt (0)), .ref a]) (h' := h) rfl ?_
    refine zcl (xs := [.int nn, .int (Int32.ofInt (0))]) (rest := []) H zJ_230 rfl (k' := 20) rfl (by omega) rfl rfl (Nat.le_of_ble_eq_true rfl) (M' := z_m229) rfl (Nat.le_of_ble_eq_true rfl) (zS_229 (by omega) en hP H) (fun v h37 q => ?_)
    obtain ⟨c5, P5, Q5, D5, S5, g5, rfl, H5, h5⟩ := q
    show z_ok sx d 230 20 [(2, .int nn), (0, .ref a), (1, .int (Int32.ofInt (0)))] [.int c5] h37 _
    refine zh_if zJ_230 (a := 23) (b := 1) (z := 0) rfl (fun hc38 => ?_) (fun hc38 => ?_)
    · exact absurd ((h5.resolve_left (fun e => zcmp_ne.mp hc38 (by rw [e]))).2.1) (by omega)
    · refine zh zJ_230 (i := (0, 0, 0, -1)) rfl rfl (k' := 22) (lo' := [(2, .int nn), (0, .ref a), (1, .int (Int32.ofInt (0)))]) (st' := [.int (Int32.ofInt (-1))]) (h' := h37) rfl ?_
      refine zh_iret zJ_230 (a := 0) (b := 0) (z := 0) rfl (Or.inl rfl) ?_
      exact ⟨_, rfl, rfl, rfl, _, P5, Q5, D5, S5, g5, rfl, H5, Or.inl (by decide)⟩
  | n + 1, N, P, Q, D, S, g, h, nn, hn, en, hP, H, hlines => by
    obtain ⟨bE, bP, bQ, bD, bS⟩ := H.bd
    refine zh zJ_230 (i := (2, 0, 0, 0)) rfl rfl (k' := 17) (lo' := [(2, .int nn), (0, .ref a), (1, .int (Int32.ofInt (0)))]) (st' := [.ref a]) (h' := h) rfl ?_
    refine zh zJ_230 (i := (1, 1, 0, 0)) rfl rfl (k' := 18) (lo' := [(2, .int nn), (0, .ref a), (1, .int (Int32.ofInt (0)))]) (st' := [.int (Int32.ofInt (0)), .ref a]) (h' := h) rfl ?_
    refine zh zJ_230 (i := (1, 2, 0, 0)) rfl rfl (k' := 19) (lo' := [(2, .int nn), (0, .ref a), (1, .int (Int32.ofInt (0)))]) (st' := [.int nn, .int (Int32.ofInt (0)), .ref a]) (h' := h) rfl ?_
    refine zcl (xs := [.int nn, .int (Int32.ofInt (0))]) (rest := []) H zJ_230 rfl (k' := 20) rfl (by omega) rfl rfl (Nat.le_of_ble_eq_true rfl) (M' := z_m229) rfl (Nat.le_of_ble_eq_true rfl) (zS_229 (by omega) en hP H) (fun v h27 q => ?_)
    obtain ⟨c5, P5, Q5, D5, S5, g5, rfl, H5, h5⟩ := q
    show z_ok sx d 230 20 [(2, .int nn), (0, .ref a), (1, .int (Int32.ofInt (0)))] [.int c5] h27 _
    refine zh_if zJ_230 (a := 23) (b := 1) (z := 0) rfl (fun hc28 => ?_) (fun hc28 => ?_)
    · obtain ⟨-, hN, h6, h7⟩ := (h5.resolve_left (fun e => zcmp_ne.mp hc28 (by rw [e])))
      have hlk : ∀ l, l < N + 1 → ∃ s e, e ≤ S5 ∧ zLd g5 l s e := fun l hl => by
        have hss := h7.1.2.2.1
        by_cases hl2 : l = N
        · subst hl2; exact ⟨S, S5, Nat.le_refl _, h7.1⟩
        · obtain ⟨s, e, q1, q2⟩ := hlines l (by omega)
          exact ⟨s, e, by omega, h7.keep (by omega) hN q1 q2⟩
      have eN : (nn + Int32.ofInt (1)).toInt = ((N + 1 : Nat) : Int) := (by rw [zI_add en (zI_c (by decide) (by decide)) (by omega) (by omega)]; omega)
      refine zh zJ_230 (i := (2, 0, 0, 0)) rfl rfl (k' := 24) (lo' := [(2, .int nn), (0, .ref a), (1, .int (Int32.ofInt (0)))]) (st' := [.ref a]) (h' := h27) rfl ?_
      refine zcl (xs := []) (rest := []) H5 zJ_230 rfl (k' := 25) rfl (by omega) rfl rfl (Nat.le_of_ble_eq_true rfl) (M' := z_m202) rfl (Nat.le_of_ble_eq_true rfl) (zS_202 (by omega) H5) (fun v h29 q => ?_)
      obtain ⟨rfl, P6, h8, H6⟩ := q
      show z_ok sx d 230 25 [(2, .int nn), (0, .ref a), (1, .int (Int32.ofInt (0)))] [] h29 _
      have b6 := H6.bd
      refine zh zJ_230 (i := (2, 0, 0, 0)) rfl rfl (k' := 26) (lo' := [(2, .int nn), (0, .ref a), (1, .int (Int32.ofInt (0)))]) (st' := [.ref a]) (h' := h29) rfl ?_
      refine zg10 H6 zJ_230 rfl (k' := 27) rfl (fun x30 ex30 => ?_)
      refine zh zJ_230 (i := (2, 0, 0, 0)) rfl rfl (k' := 28) (lo' := [(2, .int nn), (0, .ref a), (1, .int (Int32.ofInt (0)))]) (st' := [.ref a, .int x30]) (h' := h29) rfl ?_
      refine zg11 H6 zJ_230 rfl (k' := 29) rfl (fun x31 ex31 => ?_)
      refine zh_icmp zJ_230 (a := 34) (b := 1) (z := 0) rfl (fun hc32 => ?_) (fun hc32 => ?_)
      · refine zh zJ_230 (i := (2, 0, 0, 0)) rfl rfl (k' := 35) (lo' := [(2, .int nn), (0, .ref a), (1, .int (Int32.ofInt (0)))]) (st' := [.ref a]) (h' := h29) rfl ?_
        refine zh zJ_230 (i := (0, 0, 0, 59)) rfl rfl (k' := 36) (lo' := [(2, .int nn), (0, .ref a), (1, .int (Int32.ofInt (0)))]) (st' := [.int (Int32.ofInt (59)), .ref a]) (h' := h29) rfl ?_
        refine zh zJ_230 (i := (0, 0, 0, 59)) rfl rfl (k' := 37) (lo' := [(2, .int nn), (0, .ref a), (1, .int (Int32.ofInt (0)))]) (st' := [.int (Int32.ofInt (59)), .int (Int32.ofInt (59)), .ref a]) (h' := h29) rfl ?_
        refine zcl (xs := [.int (Int32.ofInt (59)), .int (Int32.ofInt (59))]) (rest := []) H6 zJ_230 rfl (k' := 38) rfl (by omega) rfl rfl (Nat.le_of_ble_eq_true rfl) (M' := z_m201) rfl (Nat.le_of_ble_eq_true rfl) (zS_201 H6 _ _) (fun v h33 q => ?_)
        obtain ⟨rfl, c, rfl, hc⟩ := q
        show z_ok sx d 230 38 [(2, .int nn), (0, .ref a), (1, .int (Int32.ofInt (0)))] [.int c] h33 _
        refine zh_if zJ_230 (a := 41) (b := 1) (z := 0) rfl (fun hc34 => ?_) (fun hc34 => ?_)
        · have hlt : P6 < E := (hc.resolve_left (fun e => zcmp_ne.mp hc34 (by rw [e]))).2
          refine zh zJ_230 (i := (2, 0, 0, 0)) rfl rfl (k' := 42) (lo' := [(2, .int nn), (0, .ref a), (1, .int (Int32.ofInt (0)))]) (st' := [.ref a]) (h' := h33) rfl ?_
          refine zh zJ_230 (i := (27, 0, 0, 0)) rfl rfl (k' := 43) (lo' := [(2, .int nn), (0, .ref a), (1, .int (Int32.ofInt (0)))]) (st' := [.ref a, .ref a]) (h' := h33) rfl ?_
          refine zg10 H6 zJ_230 rfl (k' := 44) rfl (fun x35 ex35 => ?_)
          refine zh zJ_230 (i := (0, 0, 0, 1)) rfl rfl (k' := 45) (lo' := [(2, .int nn), (0, .ref a), (1, .int (Int32.ofInt (0)))]) (st' := [.int (Int32.ofInt (1)), .int x35, .ref a]) (h' := h33) rfl ?_
          refine zh zJ_230 (i := (8, 0, 0, 0)) rfl rfl (k' := 46) (lo' := [(2, .int nn), (0, .ref a), (1, .int (Int32.ofInt (0)))]) (st' := [.int (x35 + (Int32.ofInt (1))), .ref a]) (h' := h33) rfl ?_
          refine zp10 H6 zJ_230 rfl (k' := 47) rfl (P6 + 1) (by rw [zI_add ex35 (zI_c (by decide) (by decide)) (by omega) (by omega)]; omega) (by omega) (fun h36 Hh36 => ?_)
          refine zh zJ_230 (i := (7, 2, 0, 1)) rfl rfl (k' := 48) (lo' := [(2, .int (nn + Int32.ofInt (1))), (0, .ref a), (1, .int (Int32.ofInt (0)))]) (st' := []) (h' := h36) rfl ?_
          refine zh zJ_230 (i := (30, 16, 0, 0)) rfl rfl (k' := 16) (lo' := [(2, .int (nn + Int32.ofInt (1))), (0, .ref a), (1, .int (Int32.ofInt (0)))]) (st' := []) (h' := h36) rfl ?_
          exact zLp_230 hd n (N + 1) (P6 + 1) P6 D5 S5 g5 _ _ (by omega) eN (by omega) Hh36 (fun l hl => hlk l hl)
        · refine zh zJ_230 (i := (0, 0, 0, -1)) rfl rfl (k' := 40) (lo' := [(2, .int nn), (0, .ref a), (1, .int (Int32.ofInt (0)))]) (st' := [.int (Int32.ofInt (-1))]) (h' := h33) rfl ?_
          refine zh_iret zJ_230 (a := 0) (b := 0) (z := 0) rfl (Or.inl rfl) ?_
          exact ⟨_, rfl, rfl, rfl, _, P6, P6, D5, S5, g5, rfl, H6, Or.inl (by decide)⟩
      · refine zh zJ_230 (i := (1, 2, 0, 0)) rfl rfl (k' := 31) (lo' := [(2, .int nn), (0, .ref a), (1, .int (Int32.ofInt (0)))]) (st' := [.int nn]) (h' := h29) rfl ?_
        refine zh zJ_230 (i := (0, 0, 0, 1)) rfl rfl (k' := 32) (lo' := [(2, .int nn), (0, .ref a), (1, .int (Int32.ofInt (0)))]) (st' := [.int (Int32.ofInt (1)), .int nn]) (h' := h29) rfl ?_
        refine zh zJ_230 (i := (8, 0, 0, 0)) rfl rfl (k' := 33) (lo' := [(2, .int nn), (0, .ref a), (1, .int (Int32.ofInt (0)))]) (st' := [.int (nn + (Int32.ofInt (1)))]) (h' := h29) rfl ?_
        refine zh_iret zJ_230 (a := 0) (b := 0) (z := 0) rfl (Or.inl rfl) ?_
        exact ⟨_, rfl, rfl, rfl, _, P6, P6, D5, S5, g5, rfl, H6, Or.inr ⟨N + 1, by omega, eN, fun l hl => (by obtain ⟨s, e, -, q⟩ := hlk l hl; exact ⟨s, e, q⟩)⟩⟩
    · refine zh zJ_230 (i := (0, 0, 0, -1)) rfl rfl (k' := 22) (lo' := [(2, .int nn), (0, .ref a), (1, .int (Int32.ofInt (0)))]) (st' := [.int (Int32.ofInt (-1))]) (h' := h27) rfl ?_
      refine zh_iret zJ_230 (a := 0) (b := 0) (z := 0) rfl (Or.inl rfl) ?_
      exact ⟨_, rfl, rfl, rfl, _, P5, Q5, D5, S5, g5, rfl, H5, Or.inl (by decide)⟩
set_option maxRecDepth 100000 in
theorem zS_230 {sx : zX} {ty : List Nat} {h0 : zH} {a w b E : Nat} {P Q D S d : Nat} {g : Nat → Int32} {h : zH} (hd : 35 ≤ d) (H : zPS ty h0 a w b E P Q D S g h) : z_ok sx d 230 2 [(0, .ref a), (1, .int (Int32.ofInt (0)))] [] h (zRq (zRA ty h0 a w b E)) := by
  refine zh zJ_230 (i := (2, 0, 0, 0)) rfl rfl (k' := 3) (lo' := [(0, .ref a), (1, .int (Int32.ofInt (0)))]) (st' := [.ref a]) (h' := h) rfl ?_
  refine zh zJ_230 (i := (0, 0, 0, 0)) rfl rfl (k' := 4) (lo' := [(0, .ref a), (1, .int (Int32.ofInt (0)))]) (st' := [.int (Int32.ofInt (0)), .ref a]) (h' := h) rfl ?_
  refine zp16 H zJ_230 rfl (k' := 5) rfl (0) rfl (by omega) (fun h39 Hh39 => ?_)
  refine zh zJ_230 (i := (2, 0, 0, 0)) rfl rfl (k' := 6) (lo' := [(0, .ref a), (1, .int (Int32.ofInt (0)))]) (st' := [.ref a]) (h' := h39) rfl ?_
  refine zcl (xs := []) (rest := []) Hh39 zJ_230 rfl (k' := 7) rfl (by omega) rfl rfl (Nat.le_of_ble_eq_true rfl) (M' := z_m202) rfl (Nat.le_of_ble_eq_true rfl) (zS_202 (by omega) Hh39) (fun v h40 q => ?_)
  obtain ⟨rfl, P6, h8, H6⟩ := q
  show z_ok sx d 230 7 [(0, .ref a), (1, .int (Int32.ofInt (0)))] [] h40 _
  refine zh zJ_230 (i := (2, 0, 0, 0)) rfl rfl (k' := 8) (lo' := [(0, .ref a), (1, .int (Int32.ofInt (0)))]) (st' := [.ref a]) (h' := h40) rfl ?_
  refine zg10 H6 zJ_230 rfl (k' := 9) rfl (fun x41 ex41 => ?_)
  refine zh zJ_230 (i := (2, 0, 0, 0)) rfl rfl (k' := 10) (lo' := [(0, .ref a), (1, .int (Int32.ofInt (0)))]) (st' := [.ref a, .int x41]) (h' := h40) rfl ?_
  refine zg11 H6 zJ_230 rfl (k' := 11) rfl (fun x42 ex42 => ?_)
  refine zh_icmp zJ_230 (a := 14) (b := 1) (z := 0) rfl (fun hc43 => ?_) (fun hc43 => ?_)
  · refine zh zJ_230 (i := (0, 0, 0, 0)) rfl rfl (k' := 15) (lo' := [(0, .ref a), (1, .int (Int32.ofInt (0)))]) (st' := [.int (Int32.ofInt (0))]) (h' := h40) rfl ?_
    refine zh zJ_230 (i := (4, 2, 0, 0)) rfl rfl (k' := 16) (lo' := [(2, .int (Int32.ofInt (0))), (0, .ref a), (1, .int (Int32.ofInt (0)))]) (st' := []) (h' := h40) rfl ?_
    exact zLp_230 hd 13 0 P6 P6 D 0 g _ _ (by omega) rfl (by omega) H6 (fun l hl => absurd hl (Nat.not_lt_zero _))
  · refine zh zJ_230 (i := (0, 0, 0, 0)) rfl rfl (k' := 13) (lo' := [(0, .ref a), (1, .int (Int32.ofInt (0)))]) (st' := [.int (Int32.ofInt (0))]) (h' := h40) rfl ?_
    refine zh_iret zJ_230 (a := 0) (b := 0) (z := 0) rfl (Or.inl rfl) ?_
    exact ⟨_, rfl, rfl, rfl, _, P6, P6, D, 0, g, rfl, H6, Or.inr ⟨0, by omega, by decide, fun l hl => absurd hl (Nat.not_lt_zero _)⟩⟩
end
section
/-! the reference's law; printed with wip/gen/gen_rd5.py -/
/-- a typed write into a field -/
theorem zputT {sx : zX} {d j k k' : Nat} {lo : zL} {st : List Value} {h : zH} {Ψ : zO → zH → Nat → Nat → Prop} {M : zMi} {cs : List zI} {hs : List zHd} {z : Int} {ty : List Nat} {a t b c : Nat} {fs : List Value} {v : Value} {V : zA} (J : zJ3 j M cs hs) (hi : cs[k]? = some (38, c, b, z)) (hk : k + 1 = k') (T : zTY z_tt ty h) (E : zE1 ty h) (ha : ty[a]? = some t) (he : h[a]? = some (.inr (c, fs))) (hb : b < fs.length) (g : zG ty V v) (hz : zst (z_tt t).2.2.2 (b : Int) (b : Int) V = true) (ms : List zMod) (hm : zcv ms t (b : Int) (b : Int) = true) (hno : zno ms = true) (hf : z_fit z v = true) (kk : ∀ h', zTY z_tt ty h' → zE1 ty h' → zFm ms ty h h' → h'[a]? = some (.inr (c, fs.set b v)) → (∀ q, q ≠ a → h'[q]? = h[q]?) → z_ok sx d j k' lo st h' Ψ) : z_ok sx d j k lo (v :: .ref a :: st) h Ψ := by
  obtain ⟨T', F'⟩ := zwf' (ms := ms) (b := b) T ha he hb g hz hm
  exact zh_put J hi hk he hb hf (kk _ T' (zE1_stable hno ty h _ T T' (T.len T') F' E) F' (zset_eq he) (fun q hq => zset_ne (Ne.symm hq)))
noncomputable def zUm : List zMod := [(20, 0, 0), (20, 9, 11)]
noncomputable def zNi (h : zH) (a : Nat) : Prop := ∃ fs : List Value, h[a]? = some (.inr (9, fs)) ∧ fs[9]? = some (.int 0)
theorem zNi.keep {ms : List zMod} {ty : List Nat} {h h' : zH} {a : Nat} (T' : zTY z_tt ty h') (ha : ty[a]? = some 20) (F : zFm ms ty h h') (hm : ¬ zIn ms 20 9) (H : zNi h a) : zNi h' a := by
  obtain ⟨fs, he, h9⟩ := H
  obtain ⟨fs', he', hl'⟩ := zcell0 (c := 9) (n := 23) T' ha rfl rfl rfl
  have := F.2 a 20 _ _ ha he he' 9 hm
  exact ⟨fs', he', this.trans h9⟩
theorem zJ_210 : zJ3 210 z_m210 z_c210 z_h210 := ⟨rfl, rfl, rfl⟩
set_option maxRecDepth 100000 in
theorem zS_210 {sx : zX} {ty : List Nat} {a d : Nat} {h : zH} (T : zTY z_tt ty h) (E : zE1 ty h) (ha : ty[a]? = some 20) : z_ok sx d 210 0 (lv_args 0 [.ref a]) [] h (zRq (fun v h' => v = none ∧ zTY z_tt ty h' ∧ zE1 ty h' ∧ zFm zUm ty h h' ∧ zNi h' a)) := by
  show z_ok sx d 210 0 [(0, .ref a)] [] h _
  obtain ⟨fs, he, hl⟩ := zcell0 (c := 9) (n := 23) T ha rfl rfl rfl
  obtain ⟨x9, g9, l9, u9⟩ := zfd0 (b := 9) (lo := 0) (hi := 400) T ha he (by omega) (by decide +kernel)
  refine zh zJ_210 (i := (2, 0, 0, 0)) rfl rfl (k' := 1) (lo' := [(0, .ref a)]) (st' := [.ref a]) (h' := h) rfl ?_
  refine zh zJ_210 (i := (0, 0, 0, 0)) rfl rfl (k' := 2) (lo' := [(0, .ref a)]) (st' := [.int (Int32.ofInt (0)), .ref a]) (h' := h) rfl ?_
  refine zputT zJ_210 (k' := 3) rfl rfl T E ha he (by omega) (zK0 (by decide) (by decide)) (by decide +kernel) zUm (by decide +kernel) (by decide +kernel) rfl (fun h1 T1 E1 F1 he1 hq1 => ?_)
  refine zh zJ_210 (i := (2, 0, 0, 0)) rfl rfl (k' := 4) (lo' := [(0, .ref a)]) (st' := [.ref a]) (h' := h1) rfl ?_
  refine zh zJ_210 (i := (2, 0, 0, 0)) rfl rfl (k' := 5) (lo' := [(0, .ref a)]) (st' := [.ref a, .ref a]) (h' := h1) rfl ?_
  refine zh_get zJ_210 (b := 9) (c := 9) (z := 0) rfl (k' := 6) rfl he1 ((List.getElem?_set_ne (by decide)).trans g9) ?_
  refine zputT zJ_210 (k' := 7) rfl rfl T1 E1 ha he1 (by simp only [List.length_set]; omega) (show zG ty (0, 0, 400) (.int x9) from ⟨x9, rfl, l9, u9⟩) (by decide +kernel) zUm (by decide +kernel) (by decide +kernel) rfl (fun h2 T2 E2 F2 he2 hq2 => ?_)
  refine zh zJ_210 (i := (2, 0, 0, 0)) rfl rfl (k' := 8) (lo' := [(0, .ref a)]) (st' := [.ref a]) (h' := h2) rfl ?_
  refine zh zJ_210 (i := (0, 0, 0, 0)) rfl rfl (k' := 9) (lo' := [(0, .ref a)]) (st' := [.int (Int32.ofInt (0)), .ref a]) (h' := h2) rfl ?_
  refine zputT zJ_210 (k' := 10) rfl rfl T2 E2 ha he2 (by simp only [List.length_set]; omega) (zK0 (by decide) (by decide)) (by decide +kernel) zUm (by decide +kernel) (by decide +kernel) rfl (fun h3 T3 E3 F3 he3 hq3 => ?_)
  refine zh zJ_210 (i := (2, 0, 0, 0)) rfl rfl (k' := 11) (lo' := [(0, .ref a)]) (st' := [.ref a]) (h' := h3) rfl ?_
  refine zh zJ_210 (i := (0, 0, 0, 0)) rfl rfl (k' := 12) (lo' := [(0, .ref a)]) (st' := [.int (Int32.ofInt (0)), .ref a]) (h' := h3) rfl ?_
  refine zputT zJ_210 (k' := 13) rfl rfl T3 E3 ha he3 (by simp only [List.length_set]; omega) (zK0 (by decide) (by decide)) (by decide +kernel) zUm (by decide +kernel) (by decide +kernel) rfl (fun h4 T4 E4 F4 he4 hq4 => ?_)
  refine zh_vret zJ_210 (a := 0) (b := 0) (z := 0) rfl ?_
  exact ⟨_, rfl, rfl, rfl, rfl, T4, E4, ((F1.tr zExt.rf F2).tr zExt.rf F3).tr zExt.rf F4, _, he4, (List.getElem?_set_ne (by decide)).trans (List.getElem?_set_self (by simp only [List.length_set]; omega))⟩
theorem zPS_mk {ty : List Nat} {a : Nat} {h : zH} (T : zTY z_tt ty h) (E1 : zE1 ty h) (ha : ty[a]? = some 20) : ∃ (w b E P Q D S : Nat) (g : Nat → Int32), zPS ty h a w b E P Q D S g h := by
  obtain ⟨fs, he, hl⟩ := zcell0 (c := 9) (n := 23) T ha rfl rfl rfl
  obtain ⟨w, f1, hw⟩ := zfd2 (b := 1) (u := 21) T ha he (by omega) (by decide +kernel)
  obtain ⟨b, f8, hb⟩ := zfd2 (b := 8) (u := 26) T ha he (by omega) (by decide +kernel)
  obtain ⟨g, hg⟩ := zcell1 (n := 2086) T hw rfl rfl
  obtain ⟨x11, g11, l11, u11⟩ := zfd0 (b := 11) (lo := 0) (hi := 400) T ha he (by omega) (by decide +kernel)
  obtain ⟨x10, g10, l10, u10⟩ := zfd0 (b := 10) (lo := 0) (hi := 400) T ha he (by omega) (by decide +kernel)
  obtain ⟨x12, g12, l12, u12⟩ := zfd0 (b := 12) (lo := 0) (hi := 400) T ha he (by omega) (by decide +kernel)
  obtain ⟨x13, g13, l13, u13⟩ := zfd0 (b := 13) (lo := 0) (hi := 6) T ha he (by omega) (by decide +kernel)
  obtain ⟨x16, g16, l16, u16⟩ := zfd0 (b := 16) (lo := 0) (hi := 400) T ha he (by omega) (by decide +kernel)
  exact ⟨w, b, x11.toInt.toNat, x10.toInt.toNat, x12.toInt.toNat, x13.toInt.toNat, x16.toInt.toNat, g, T, E1, zFm.rf, ha, hw, hb, hg, fs, he, hl, f1, f8, ⟨x11, g11, by omega⟩, ⟨x10, g10, by omega⟩, ⟨x12, g12, by omega⟩, ⟨x13, g13, by omega⟩, ⟨x16, g16, by omega⟩⟩
set_option maxRecDepth 100000 in
theorem zNin (ms : List zMod) (t i : Nat) (h : ms.all (fun m => decide (m.1 ≠ t) || (decide ((i : Int) < m.2.1) || decide (m.2.2 < (i : Int)))) = true) : ¬ zIn ms t i := by
  rintro ⟨m, hm, m1, m2, m3⟩
  have := List.all_eq_true.mp h m hm
  rw [Bool.or_eq_true, Bool.or_eq_true, decide_eq_true_eq, decide_eq_true_eq, decide_eq_true_eq] at this
  omega
set_option maxRecDepth 100000 in
theorem zS_230a {sx : zX} {ty : List Nat} {a d : Nat} {h : zH} (hd : 35 ≤ d) (T : zTY z_tt ty h) (E : zE1 ty h) (ha : ty[a]? = some 20) : z_ok sx d 230 0 (lv_args 0 [.ref a, .int (Int32.ofInt (0))]) [] h (zRq (fun v h' => ∃ (c : Int32) (h1 : zH) (w b En P Q D S : Nat) (g : Nat → Int32), v = some (.int c) ∧ zFm zUm ty h h1 ∧ zPS ty h1 a w b En P Q D S g h' ∧ zNi h' a ∧ (c.toInt = -1 ∨ ∃ N : Nat, N ≤ 12 ∧ c.toInt = (N : Int) ∧ ∀ l, l < N → ∃ s e, zLd g l s e))) := by
  show z_ok sx d 230 0 [(0, .ref a), (1, .int (Int32.ofInt (0)))] [] h _
  refine zh zJ_230 (i := (2, 0, 0, 0)) rfl rfl (k' := 1) (lo' := [(0, .ref a), (1, .int (Int32.ofInt (0)))]) (st' := [.ref a]) (h' := h) rfl ?_
  obtain ⟨fs, he, hl⟩ := zcell0 (c := 9) (n := 23) T ha rfl rfl rfl
  refine zh_run (rest := []) (as := [.ref a]) zJ_230 (i := (54, 210, 0, 9)) rfl (by decide) (zcal54 (xs := []) (by omega) rfl rfl he rfl (Nat.le_of_ble_eq_true rfl) (M' := z_m210) rfl (Nat.le_of_ble_eq_true rfl)) (zS_210 T E ha) (fun o h1 x y q => ?_)
  obtain ⟨v, rfl, rfl, rfl, rfl, T1, E1, F1, N1⟩ := q
  refine ⟨_, rfl, rfl, rfl, ?_⟩
  obtain ⟨w, b, En, P, Q, D, S, g, H⟩ := zPS_mk T1 E1 ha
  refine z_ok.imp (zS_230 (by omega) H) (fun o h2 x y q => ?_)
  obtain ⟨v, rfl, rfl, rfl, c, P', Q', D', S', g', rfl, H', hc⟩ := q
  exact ⟨_, rfl, rfl, rfl, c, h1, w, b, En, P', Q', D', S', g', rfl, F1, H', N1.keep H'.1 ha H'.2.2.1 (zNin _ _ _ (by decide +kernel)), hc⟩
theorem zJ_176 : zJ3 176 z_m176 z_c176 z_h176 := ⟨rfl, rfl, rfl⟩
set_option maxRecDepth 100000 in
theorem zS_176a {sx : zX} {a d : Nat} {h : zH} (k : Int32) : z_ok sx d 176 0 (lv_args 0 [.ref a, .int (Int32.ofInt (0)), .int k]) [] h (zRq (fun v h' => v = some (.int (Int32.ofInt (0))) ∧ h' = h)) := by
  show z_ok sx d 176 0 [(0, .ref a), (1, .int (Int32.ofInt (0))), (2, .int k)] [] h _
  refine zh zJ_176 (i := (1, 1, 0, 0)) rfl rfl (k' := 1) (lo' := [(0, .ref a), (1, .int (Int32.ofInt (0))), (2, .int k)]) (st' := [.int (Int32.ofInt (0))]) (h' := h) rfl ?_
  refine zh_if zJ_176 (a := 5) (b := 0) (z := 0) rfl (fun hc1 => ?_) (fun hc1 => ?_)
  · refine zh zJ_176 (i := (1, 1, 0, 0)) rfl rfl (k' := 6) (lo' := [(0, .ref a), (1, .int (Int32.ofInt (0))), (2, .int k)]) (st' := [.int (Int32.ofInt (0))]) (h' := h) rfl ?_
    refine zh_iret zJ_176 (a := 0) (b := 0) (z := 0) rfl (Or.inr ⟨rfl, Or.inl rfl⟩) ?_
    exact ⟨_, rfl, rfl, rfl, rfl, rfl⟩
  · exact absurd (show z_cmp 0 (Int32.ofInt (0)) 0 = true from rfl) hc1
set_option maxRecDepth 100000 in
theorem zS_176b {sx : zX} {ty : List Nat} {a d : Nat} {h : zH} (k : Int32) (T : zTY z_tt ty h) (E : zE1 ty h) (ha : ty[a]? = some 20) : z_ok sx d 176 0 (lv_args 0 [.ref a, .int (Int32.ofInt (1)), .int k]) [] h (zRq (fun v h' => v = some (.int (Int32.ofInt (1))) ∧ zTY z_tt ty h' ∧ zE1 ty h' ∧ zFm [(20, 0, 0)] ty h h')) := by
  show z_ok sx d 176 0 [(0, .ref a), (1, .int (Int32.ofInt (1))), (2, .int k)] [] h _
  obtain ⟨fs, he, hl⟩ := zcell0 (c := 9) (n := 23) T ha rfl rfl rfl
  refine zh zJ_176 (i := (1, 1, 0, 0)) rfl rfl (k' := 1) (lo' := [(0, .ref a), (1, .int (Int32.ofInt (1))), (2, .int k)]) (st' := [.int (Int32.ofInt (1))]) (h' := h) rfl ?_
  refine zh_if zJ_176 (a := 5) (b := 0) (z := 0) rfl (fun hc2 => ?_) (fun hc2 => ?_)
  · exact absurd hc2 (by decide)
  · refine zh zJ_176 (i := (2, 0, 0, 0)) rfl rfl (k' := 3) (lo' := [(0, .ref a), (1, .int (Int32.ofInt (1))), (2, .int k)]) (st' := [.ref a]) (h' := h) rfl ?_
    refine zh zJ_176 (i := (1, 2, 0, 0)) rfl rfl (k' := 4) (lo' := [(0, .ref a), (1, .int (Int32.ofInt (1))), (2, .int k)]) (st' := [.int k, .ref a]) (h' := h) rfl ?_
    refine zputT zJ_176 (k' := 5) rfl rfl T E ha he (by omega) (zFull_ok k) (by decide +kernel) [(20, 0, 0)] (by decide +kernel) (by decide +kernel) rfl (fun h1 T1 E1 F1 he1 hq1 => ?_)
    refine zh zJ_176 (i := (1, 1, 0, 0)) rfl rfl (k' := 6) (lo' := [(0, .ref a), (1, .int (Int32.ofInt (1))), (2, .int k)]) (st' := [.int (Int32.ofInt (1))]) (h' := h1) rfl ?_
    refine zh_iret zJ_176 (a := 0) (b := 0) (z := 0) rfl (Or.inr ⟨rfl, Or.inr rfl⟩) ?_
    exact ⟨_, rfl, rfl, rfl, rfl, T1, E1, F1⟩
theorem zJ_232 : zJ3 232 z_m232 z_c232 z_h232 := ⟨rfl, rfl, rfl⟩
noncomputable def zQl (ty : List Nat) (h0 : zH) (a : Nat) (gs : List Value) (w : Nat) (g : Nat → Int32) (k : Nat) (h : zH) : Prop := zTY z_tt ty h ∧ zFm [(21, 388, 1236)] ty h0 h ∧ h[a]? = some (.inr (9, gs)) ∧ ∃ f : Nat → Int32, h[w]? = some (.inl (0, (2086, .inl f))) ∧ (∀ j, j < k → f (388 + j) = g (1237 + j)) ∧ ∀ j, 1237 ≤ j → f j = g j
set_option maxRecDepth 100000 in
theorem zLp_232 {sx : zX} {d : Nat} {Ψ : zO → zH → Nat → Nat → Prop} {ty : List Nat} {h0 : zH} {a w : Nat} {gs : List Value} {g : Nat → Int32} {r : Int32} (ha : ty[a]? = some 20) (hw : ty[w]? = some 21) (hg1 : gs[1]? = some (.ref w)) (hr : 0 ≤ (g 1237).toInt ∧ (g 1237).toInt ≤ 12) (kk : ∀ (x : Int32) (h : zH), zQl ty h0 a gs w g 849 h → z_ok sx d 232 47 [(2, .int x), (1, .int r), (0, .ref a)] [] h Ψ) {h : zH} (q : zQl ty h0 a gs w g 0 h) : z_ok sx d 232 30 [(2, .int (Int32.ofInt (0))), (1, .int r), (0, .ref a)] [] h Ψ := by
  refine zloop (fun x => [(2, .int x), (1, .int r), (0, .ref a)]) 849 (zQl ty h0 a gs w g) (fun i x h hx hi q kk => ?_) (fun x h hx q => ?_) 849 0 _ h rfl rfl q
  · obtain ⟨T, F, he, f, hf, hf1, hf2⟩ := q
    refine zh zJ_232 (i := (1, 2, 0, 0)) rfl rfl (k' := 31) (lo' := [(2, .int x), (1, .int r), (0, .ref a)]) (st' := [.int x]) (h' := h) rfl ?_
    refine zh zJ_232 (i := (0, 0, 0, 849)) rfl rfl (k' := 32) (lo' := [(2, .int x), (1, .int r), (0, .ref a)]) (st' := [.int (Int32.ofInt (849)), .int x]) (h' := h) rfl ?_
    refine zh_icmp zJ_232 (a := 47) (b := 3) (z := 0) rfl (fun hc => ?_) (fun hc => ?_)
    · exact absurd (zcmp_ge.mp hc) (by rw [hx, z_of32 (by omega) (by omega)]; omega)
    have e1 : (Int32.ofInt (388) + x).toInt = ((388 + i : Nat) : Int) := (by rw [zI_add (zI_c (by decide) (by decide)) hx (by omega) (by omega)]; omega)
    have e2 : (Int32.ofInt (1237) + x).toInt = ((1237 + i : Nat) : Int) := (by rw [zI_add (zI_c (by decide) (by decide)) hx (by omega) (by omega)]; omega)
    refine zh zJ_232 (i := (2, 0, 0, 0)) rfl rfl (k' := 34) (lo' := [(2, .int x), (1, .int r), (0, .ref a)]) (st' := [.ref a]) (h' := h) rfl ?_
    refine zh_get zJ_232 (a := a) (b := 1) (c := 9) (z := 0) rfl (k' := 35) rfl he hg1 ?_
    refine zh zJ_232 (i := (0, 0, 0, 388)) rfl rfl (k' := 36) (lo' := [(2, .int x), (1, .int r), (0, .ref a)]) (st' := [.int (Int32.ofInt (388)), .ref w]) (h' := h) rfl ?_
    refine zh zJ_232 (i := (1, 2, 0, 0)) rfl rfl (k' := 37) (lo' := [(2, .int x), (1, .int r), (0, .ref a)]) (st' := [.int x, .int (Int32.ofInt (388)), .ref w]) (h' := h) rfl ?_
    refine zh zJ_232 (i := (8, 0, 0, 0)) rfl rfl (k' := 38) (lo' := [(2, .int x), (1, .int r), (0, .ref a)]) (st' := [.int ((Int32.ofInt (388)) + x), .ref w]) (h' := h) rfl ?_
    refine zh zJ_232 (i := (2, 0, 0, 0)) rfl rfl (k' := 39) (lo' := [(2, .int x), (1, .int r), (0, .ref a)]) (st' := [.ref a, .int ((Int32.ofInt (388)) + x), .ref w]) (h' := h) rfl ?_
    refine zh_get zJ_232 (a := a) (b := 1) (c := 9) (z := 0) rfl (k' := 40) rfl he hg1 ?_
    refine zh zJ_232 (i := (0, 0, 0, 1237)) rfl rfl (k' := 41) (lo' := [(2, .int x), (1, .int r), (0, .ref a)]) (st' := [.int (Int32.ofInt (1237)), .ref w, .int ((Int32.ofInt (388)) + x), .ref w]) (h' := h) rfl ?_
    refine zh zJ_232 (i := (1, 2, 0, 0)) rfl rfl (k' := 42) (lo' := [(2, .int x), (1, .int r), (0, .ref a)]) (st' := [.int x, .int (Int32.ofInt (1237)), .ref w, .int ((Int32.ofInt (388)) + x), .ref w]) (h' := h) rfl ?_
    refine zh zJ_232 (i := (8, 0, 0, 0)) rfl rfl (k' := 43) (lo' := [(2, .int x), (1, .int r), (0, .ref a)]) (st' := [.int ((Int32.ofInt (1237)) + x), .ref w, .int ((Int32.ofInt (388)) + x), .ref w]) (h' := h) rfl ?_
    refine zh_iald zJ_232 (z := 0) rfl (k' := 44) rfl hf (by omega) (by omega) ?_
    rw [znat e2, hf2 (1237 + i) (by omega)]
    refine zh_iast zJ_232 (z := 0) rfl (k' := 45) rfl hf (by omega) (by omega) ?_
    rw [znat e1]
    have hv : ∀ r ∈ (z_tt 21).2.2.2, r.1 ≤ ((388 + i : Nat) : Int) → ((388 + i : Nat) : Int) ≤ r.2.1 → zG ty r.2.2 (.int (g (1237 + i))) := by
      by_cases h0i : i = 0
      · subst h0i
        exact zst_ok (a := (0, 0, 12)) (ilo := 388) (ihi := 388) (by decide +kernel) ⟨_, rfl, hr.1, hr.2⟩ (by omega) (by omega)
      · exact zst_ok (a := zFull) (ilo := 389) (ihi := 1236) (by decide +kernel) (zFull_ok _) (by omega) (by omega)
    obtain ⟨T', F'⟩ := zwr (ms := [(21, 388, 1236)]) T hw hf (i := 388 + i) (by omega) hv (zcv_ok (lo := 388) (hi := 1236) (by decide +kernel) (by omega) (by omega))
    have hn : w ≠ a := fun e => by rw [e, ha] at hw; cases hw
    have he' := (zset_ne (h := h) (e := .inl (0, (2086, .inl (upd f (388 + i) (g (1237 + i)))))) hn).trans he
    have hw' := zset_eq (e := .inl (0, (2086, .inl (upd f (388 + i) (g (1237 + i)))))) hf
    generalize h.set w (.inl (0, (2086, .inl (upd f (388 + i) (g (1237 + i)))))) = h9 at T' F' he' hw' ⊢
    refine zh zJ_232 (i := (7, 2, 0, 1)) rfl rfl (k' := 46) (lo' := [(2, .int (x + Int32.ofInt (1))), (1, .int r), (0, .ref a)]) (st' := []) (h' := h9) rfl ?_
    refine zh zJ_232 (i := (30, 30, 0, 0)) rfl rfl (k' := 30) (lo' := [(2, .int (x + Int32.ofInt (1))), (1, .int r), (0, .ref a)]) (st' := []) (h' := h9) rfl ?_
    refine kk _ _ (zinc hx (by omega)) ⟨T', F.tr zExt.rf F', he', _, hw', fun j hj => ?_, fun j hj => by rw [zupd_ne (by omega)]; exact hf2 j hj⟩
    by_cases hji : j = i
    · subst hji; rw [zupd_at]
    · rw [zupd_ne (by omega)]; exact hf1 j (by omega)
  · refine zh zJ_232 (i := (1, 2, 0, 0)) rfl rfl (k' := 31) (lo' := [(2, .int x), (1, .int r), (0, .ref a)]) (st' := [.int x]) (h' := h) rfl ?_
    refine zh zJ_232 (i := (0, 0, 0, 849)) rfl rfl (k' := 32) (lo' := [(2, .int x), (1, .int r), (0, .ref a)]) (st' := [.int (Int32.ofInt (849)), .int x]) (h' := h) rfl ?_
    refine zh_icmp zJ_232 (a := 47) (b := 3) (z := 0) rfl (fun hc => ?_) (fun hc => ?_)
    · exact kk x h q
    · exact absurd (zcmp_ge.mpr (by rw [hx, z_of32 (by omega) (by omega)]; omega)) hc
noncomputable def zLm : List zMod := [(20, 0, 0), (20, 7, 7), (20, 9, 14), (20, 16, 16), (21, 0, 2085)]
noncomputable def zWide (ms ms' : List zMod) : Bool := ms.all (fun m => zcv ms' m.1 m.2.1 m.2.2)
theorem zFm.wide {ms ms' : List zMod} {ty : List Nat} {h h' : zH} (F : zFm ms ty h h') (hw : zWide ms ms' = true) : zFm ms' ty h h' := F.mono (fun t n hin => by
  obtain ⟨m, hm, m1, m2, m3⟩ := hin
  have := zcv_ok (List.all_eq_true.mp hw m hm) m2 m3
  rw [← m1]
  exact this)
theorem zPs_Px {g f : Nat → Int32} (hfg : ∀ i, i < 400 → f (437 + 2 * i) = g (1286 + 2 * i)) : ∀ {n i t t' : Nat}, zPs g n i t t' → zPx f n i t
  | 0, _, _, _, _ => trivial
  | n + 1, i, t, t', h => by
    obtain ⟨a1, a2⟩ := h
    refine ⟨a1, ?_⟩
    rw [hfg i a1]
    split
    · next h3 => rw [if_pos h3] at a2; exact ⟨a2.1, zPs_Px hfg a2.2⟩
    · next h3 =>
      rw [if_neg h3] at a2
      split
      · next h4 => rw [if_pos h4] at a2; exact ⟨a2.1, zPs_Px hfg a2.2⟩
      · next h4 => rw [if_neg h4] at a2; exact ⟨a2.1, zPs_Px hfg a2.2⟩
theorem zLT_of {g f : Nat → Int32} {N : Nat} (hN : N ≤ 12) (h0 : (f 388).toInt = (N : Int)) (hfg : ∀ j, 1 ≤ j → j < 849 → f (388 + j) = g (1237 + j)) (hl : ∀ l, l < N → ∃ s e, zLd g l s e) : zLT f := by
  refine ⟨by omega, fun l hl2 => ?_⟩
  obtain ⟨s, e, h1, h2, h3, t', h4⟩ := hl l (by omega)
  have a1 : f (391 + 4 * l) = g (1240 + 4 * l) := by
    have := hfg (3 + 4 * l) (by omega) (by omega)
    rw [show 388 + (3 + 4 * l) = 391 + 4 * l by omega, show 1237 + (3 + 4 * l) = 1240 + 4 * l by omega] at this
    exact this
  have a2 : f (392 + 4 * l) = g (1241 + 4 * l) := by
    have := hfg (4 + 4 * l) (by omega) (by omega)
    rw [show 388 + (4 + 4 * l) = 392 + 4 * l by omega, show 1237 + (4 + 4 * l) = 1241 + 4 * l by omega] at this
    exact this
  unfold zLi
  rw [a1, a2, h1, h2, show ((e : Int) - (s : Int)).toNat = e - s by omega, show ((s : Int)).toNat = s by omega]
  exact ⟨by omega, zPs_Px (fun i hi => by
    have := hfg (49 + 2 * i) (by omega) (by omega)
    rw [show 388 + (49 + 2 * i) = 437 + 2 * i by omega, show 1237 + (49 + 2 * i) = 1286 + 2 * i by omega] at this
    exact this) h4⟩
set_option maxRecDepth 100000 in
theorem zS_232 {sx : zX} {ty : List Nat} {a d : Nat} {h : zH} (hd : 36 ≤ d) (T : zTY z_tt ty h) (E : zE1 ty h) (ha : ty[a]? = some 20) : z_ok sx d 232 0 (lv_args 0 [.ref a]) [] h (zRq (fun v h' => (∃ c : Int32, v = some (.int c)) ∧ zTY z_tt ty h' ∧ zE1 ty h' ∧ zFm zLm ty h h' ∧ zNi h' a)) := by
  show z_ok sx d 232 0 [(0, .ref a)] [] h _
  obtain ⟨fs0, he0, hl0⟩ := zcell0 (c := 9) (n := 23) T ha rfl rfl rfl
  refine zh zJ_232 (i := (2, 0, 0, 0)) rfl rfl (k' := 1) (lo' := [(0, .ref a)]) (st' := [.ref a]) (h' := h) rfl ?_
  refine zh zJ_232 (i := (0, 0, 0, 0)) rfl rfl (k' := 2) (lo' := [(0, .ref a)]) (st' := [.int (Int32.ofInt (0)), .ref a]) (h' := h) rfl ?_
  refine zh_run (rest := []) (as := [.ref a, .int (Int32.ofInt (0))]) zJ_232 (i := (54, 230, 1, 9)) rfl (by decide) (zcal54 (xs := [.int (Int32.ofInt (0))]) (by omega) rfl rfl he0 rfl (Nat.le_of_ble_eq_true rfl) (M' := z_m230) rfl (Nat.le_of_ble_eq_true rfl)) (zS_230a (by omega) T E ha) (fun o hh x y q => ?_)
  obtain ⟨v, rfl, rfl, rfl, c, h1, w, b, En, P, Q, D, S, g, rfl, F1, ⟨T2, E2, F2, -, hw, hb, hg, fs, he, hl, f1, f8, ⟨x11, g11, e11⟩, ⟨x10, g10, e10⟩, ⟨x12, g12, e12⟩, -⟩, N2, hc⟩ := q
  refine ⟨_, rfl, rfl, rfl, ?_⟩
  have F0 : zFm zLm ty h hh := (F1.wide (by decide +kernel)).tr zExt.rf (F2.wide (by decide +kernel))
  show z_ok sx d 232 3 [(0, .ref a)] [.int c] hh _
  refine zh zJ_232 (i := (4, 1, 0, 0)) rfl rfl (k' := 4) (lo' := [(1, .int c), (0, .ref a)]) (st' := []) (h' := hh) rfl ?_
  refine zh zJ_232 (i := (2, 0, 0, 0)) rfl rfl (k' := 5) (lo' := [(1, .int c), (0, .ref a)]) (st' := [.ref a]) (h' := hh) rfl ?_
  refine zh zJ_232 (i := (1, 1, 0, 0)) rfl rfl (k' := 6) (lo' := [(1, .int c), (0, .ref a)]) (st' := [.int c, .ref a]) (h' := hh) rfl ?_
  refine zh_if zJ_232 (a := 10) (b := 3) (z := 0) rfl (fun hc3 => ?_) (fun hc3 => ?_)
  · have h0c : 0 ≤ c.toInt := zcmp_ge.mp hc3
    obtain ⟨N, hN, eN, hlines⟩ := hc.resolve_left (by omega)
    refine zh zJ_232 (i := (0, 0, 0, -1)) rfl rfl (k' := 11) (lo' := [(1, .int c), (0, .ref a)]) (st' := [.int (Int32.ofInt (-1)), .ref a]) (h' := hh) rfl ?_
    refine zputT zJ_232 (k' := 12) rfl rfl T2 E2 ha he (by omega) (zK0 (by decide) (by decide)) (by decide +kernel) [(20, 14, 14)] (by decide +kernel) (by decide +kernel) rfl (fun h3 T3 E3 F3 he3 hq3 => ?_)
    have hn : w ≠ a := fun e => by rw [e, ha] at hw; cases hw
    have hg3 := (hq3 w hn).trans hg
    have N3 := N2.keep T3 ha F3 (zNin _ _ _ (by decide +kernel))
    refine zh zJ_232 (i := (2, 0, 0, 0)) rfl rfl (k' := 13) (lo' := [(1, .int c), (0, .ref a)]) (st' := [.ref a]) (h' := h3) rfl ?_
    refine zh zJ_232 (i := (1, 1, 0, 0)) rfl rfl (k' := 14) (lo' := [(1, .int c), (0, .ref a)]) (st' := [.int c, .ref a]) (h' := h3) rfl ?_
    refine zh_if zJ_232 (a := 17) (b := 3) (z := 0) rfl (fun hc4 => ?_) (fun hc4 => ?_)
    · refine zh zJ_232 (i := (0, 0, 0, 0)) rfl rfl (k' := 18) (lo' := [(1, .int c), (0, .ref a)]) (st' := [.int (Int32.ofInt (0)), .ref a]) (h' := h3) rfl ?_
      refine zh zJ_232 (i := (0, 0, 0, 1)) rfl rfl (k' := 19) (lo' := [(1, .int c), (0, .ref a)]) (st' := [.int (Int32.ofInt (1)), .int (Int32.ofInt (0)), .ref a]) (h' := h3) rfl ?_
      refine zh_run (rest := []) (as := [.ref a, .int (Int32.ofInt (0)), .int (Int32.ofInt (1))]) zJ_232 (i := (54, 176, 2, 9)) rfl (by decide) (zcal54 (xs := [.int (Int32.ofInt (1)), .int (Int32.ofInt (0))]) (by omega) rfl rfl he3 rfl (Nat.le_of_ble_eq_true rfl) (M' := z_m176) rfl (Nat.le_of_ble_eq_true rfl)) (zS_176a _) (fun o hh x y q => ?_)
      obtain ⟨v, rfl, rfl, rfl, rfl, rfl⟩ := q
      refine ⟨_, rfl, rfl, rfl, ?_⟩
      show z_ok sx d 232 20 [(1, .int c), (0, .ref a)] [.int (Int32.ofInt (0))] hh _
      refine zh_if zJ_232 (a := 23) (b := 0) (z := 0) rfl (fun hc5 => ?_) (fun hc5 => ?_)
      · have f13 := (List.getElem?_set_ne (l := fs) (i := 14) (j := 1) (a := .int (Int32.ofInt (-1))) (by decide)).trans f1
        refine zh zJ_232 (i := (2, 0, 0, 0)) rfl rfl (k' := 24) (lo' := [(1, .int c), (0, .ref a)]) (st' := [.ref a]) (h' := hh) rfl ?_
        refine zh_get zJ_232 (b := 1) (c := 9) (z := 0) rfl (k' := 25) rfl he3 f13 ?_
        refine zh zJ_232 (i := (0, 0, 0, 1237)) rfl rfl (k' := 26) (lo' := [(1, .int c), (0, .ref a)]) (st' := [.int (Int32.ofInt (1237)), .ref w]) (h' := hh) rfl ?_
        refine zh zJ_232 (i := (1, 1, 0, 0)) rfl rfl (k' := 27) (lo' := [(1, .int c), (0, .ref a)]) (st' := [.int c, .int (Int32.ofInt (1237)), .ref w]) (h' := hh) rfl ?_
        obtain ⟨T4, F4⟩ := zwr (ms := [(21, 1237, 2085)]) T3 hw hg3 (i := 1237) (x := c) (by omega) (zst_ok (a := zFull) (ilo := 1237) (ihi := 2085) (by decide +kernel) (zFull_ok _) (by omega) (by omega)) (zcv_ok (lo := 1237) (hi := 2085) (by decide +kernel) (by omega) (by omega))
        have E4 := zE1_stable (ms := [(21, 1237, 2085)]) (by decide +kernel) ty hh _ T3 T4 (T3.len T4) F4 E3
        have he4 := (zset_ne (h := hh) (e := .inl (0, (2086, .inl (upd g 1237 c)))) hn).trans he3
        have hg4 := zset_eq (e := .inl (0, (2086, .inl (upd g 1237 c)))) hg3
        have N4 := N3.keep T4 ha F4 (zNin _ _ _ (by decide +kernel))
        refine zh_iast zJ_232 (z := 0) rfl (k' := 28) rfl hg3 (by decide) (by decide) ?_
        rw [show (Int32.ofInt (1237)).toNatClampNeg = 1237 from by decide +kernel]
        generalize hh.set w (.inl (0, (2086, .inl (upd g 1237 c)))) = h4 at T4 F4 E4 he4 hg4 N4 ⊢
        refine zh zJ_232 (i := (0, 0, 0, 0)) rfl rfl (k' := 29) (lo' := [(1, .int c), (0, .ref a)]) (st' := [.int (Int32.ofInt (0))]) (h' := h4) rfl ?_
        refine zh zJ_232 (i := (4, 2, 0, 0)) rfl rfl (k' := 30) (lo' := [(2, .int (Int32.ofInt (0))), (1, .int c), (0, .ref a)]) (st' := []) (h' := h4) rfl ?_
        refine zLp_232 (g := upd g 1237 c) (h0 := h4) ha hw f13 (by rw [zupd_at]; omega) (fun x h5 q => ?_) ⟨T4, zFm.rf, he4, _, hg4, fun j hj => absurd hj (Nat.not_lt_zero _), fun j _ => rfl⟩
        obtain ⟨T5, F5, he5, f, hf5, q1, q2⟩ := q
        have N5 := N4.keep T5 ha F5 (zNin _ _ _ (by decide +kernel))
        have LT : zLT f := zLT_of (g := g) hN (by have := q1 0 (by omega); rw [zupd_at] at this; rw [this]; exact eN) (fun j j1 j2 => by rw [q1 j j2, zupd_ne (by omega)]) hlines
        have E5 : zE1 ty h5 := ⟨E4.1, fun b9 t9 n9 f9 hb9 hz hbf => by
          rcases hz with rfl | rfl | rfl
          · have e := E4.1 b9 w 21 (by omega) (by omega) hb9 hw
            subst e
            rw [hf5] at hbf
            cases hbf
            exact LT
          · exact zEt_keep T4 T5 F5 hb9 (Or.inr (Or.inl rfl)) hbf (fun i h1 h2 => znt_ok (by decide +kernel) h1 h2) E4.2
          · exact zEt_keep T4 T5 F5 hb9 (Or.inr (Or.inr rfl)) hbf (fun i h1 h2 => znt_ok (by decide +kernel) h1 h2) E4.2⟩
        refine zh zJ_232 (i := (2, 0, 0, 0)) rfl rfl (k' := 48) (lo' := [(2, .int x), (1, .int c), (0, .ref a)]) (st' := [.ref a]) (h' := h5) rfl ?_
        refine zh_get zJ_232 (b := 1) (c := 9) (z := 0) rfl (k' := 49) rfl he5 f13 ?_
        refine zh zJ_232 (i := (0, 0, 0, 3)) rfl rfl (k' := 50) (lo' := [(2, .int x), (1, .int c), (0, .ref a)]) (st' := [.int (Int32.ofInt (3)), .ref w]) (h' := h5) rfl ?_
        refine zh zJ_232 (i := (0, 0, 0, 1)) rfl rfl (k' := 51) (lo' := [(2, .int x), (1, .int c), (0, .ref a)]) (st' := [.int (Int32.ofInt (1)), .int (Int32.ofInt (3)), .ref w]) (h' := h5) rfl ?_
        obtain ⟨T6, F6⟩ := zwr (ms := [(21, 2, 3)]) T5 hw hf5 (i := 3) (x := Int32.ofInt (1)) (by omega) (zst_ok (a := zFull) (ilo := 2) (ihi := 3) (by decide +kernel) (zFull_ok _) (by omega) (by omega)) (zcv_ok (lo := 2) (hi := 3) (by decide +kernel) (by omega) (by omega))
        have E6 := zE1_stable (ms := [(21, 2, 3)]) (by decide +kernel) ty h5 _ T5 T6 (T5.len T6) F6 E5
        have he6 := (zset_ne (h := h5) (e := .inl (0, (2086, .inl (upd f 3 (Int32.ofInt (1)))))) hn).trans he5
        have N6 := N5.keep T6 ha F6 (zNin _ _ _ (by decide +kernel))
        refine zh_iast zJ_232 (z := 0) rfl (k' := 52) rfl hf5 (by decide) (by decide) ?_
        rw [show (Int32.ofInt (3)).toNatClampNeg = 3 from by decide +kernel]
        generalize h5.set w (.inl (0, (2086, .inl (upd f 3 (Int32.ofInt (1)))))) = h6 at T6 F6 E6 he6 N6 ⊢
        refine zh zJ_232 (i := (2, 0, 0, 0)) rfl rfl (k' := 53) (lo' := [(2, .int x), (1, .int c), (0, .ref a)]) (st' := [.ref a]) (h' := h6) rfl ?_
        refine zh zJ_232 (i := (0, 0, 0, 0)) rfl rfl (k' := 54) (lo' := [(2, .int x), (1, .int c), (0, .ref a)]) (st' := [.int (Int32.ofInt (0)), .ref a]) (h' := h6) rfl ?_
        refine zputT zJ_232 (k' := 55) rfl rfl T6 E6 ha he6 (by simp only [List.length_set]; omega) (zK0 (by decide) (by decide)) (by decide +kernel) [(20, 7, 7)] (by decide +kernel) (by decide +kernel) rfl (fun h7 T7 E7 F7 he7 hq7 => ?_)
        have N7 := N6.keep T7 ha F7 (zNin _ _ _ (by decide +kernel))
        refine zh zJ_232 (i := (1, 1, 0, 0)) rfl rfl (k' := 56) (lo' := [(2, .int x), (1, .int c), (0, .ref a)]) (st' := [.int c]) (h' := h7) rfl ?_
        refine zh_iret zJ_232 (a := 0) (b := 0) (z := 0) rfl (Or.inl rfl) ?_
        exact ⟨_, rfl, rfl, rfl, ⟨_, rfl⟩, T7, E7, ((((F0.tr zExt.rf (F3.wide (by decide +kernel))).tr zExt.rf (F4.wide (by decide +kernel))).tr zExt.rf (F5.wide (by decide +kernel))).tr zExt.rf (F6.wide (by decide +kernel))).tr zExt.rf (F7.wide (by decide +kernel)), N7⟩
      · exact absurd (show z_cmp 0 (Int32.ofInt (0)) 0 = true from rfl) hc5
    · exact absurd hc3 hc4
  · refine zh zJ_232 (i := (2, 0, 0, 0)) rfl rfl (k' := 8) (lo' := [(1, .int c), (0, .ref a)]) (st' := [.ref a, .ref a]) (h' := hh) rfl ?_
    refine zh_get zJ_232 (b := 12) (c := 9) (z := 0) rfl (k' := 9) rfl he g12 ?_
    refine zh zJ_232 (i := (30, 11, 0, 0)) rfl rfl (k' := 11) (lo' := [(1, .int c), (0, .ref a)]) (st' := [.int x12, .ref a]) (h' := hh) rfl ?_
    refine zputT zJ_232 (k' := 12) rfl rfl T2 E2 ha he (by omega) (zFull_ok x12) (by decide +kernel) [(20, 14, 14)] (by decide +kernel) (by decide +kernel) rfl (fun h3 T3 E3 F3 he3 hq3 => ?_)
    have N3 := N2.keep T3 ha F3 (zNin _ _ _ (by decide +kernel))
    refine zh zJ_232 (i := (2, 0, 0, 0)) rfl rfl (k' := 13) (lo' := [(1, .int c), (0, .ref a)]) (st' := [.ref a]) (h' := h3) rfl ?_
    refine zh zJ_232 (i := (1, 1, 0, 0)) rfl rfl (k' := 14) (lo' := [(1, .int c), (0, .ref a)]) (st' := [.int c, .ref a]) (h' := h3) rfl ?_
    refine zh_if zJ_232 (a := 17) (b := 3) (z := 0) rfl (fun hc6 => ?_) (fun hc6 => ?_)
    · exact absurd hc6 hc3
    · refine zh zJ_232 (i := (0, 0, 0, 1)) rfl rfl (k' := 16) (lo' := [(1, .int c), (0, .ref a)]) (st' := [.int (Int32.ofInt (1)), .ref a]) (h' := h3) rfl ?_
      refine zh zJ_232 (i := (30, 18, 0, 0)) rfl rfl (k' := 18) (lo' := [(1, .int c), (0, .ref a)]) (st' := [.int (Int32.ofInt (1)), .ref a]) (h' := h3) rfl ?_
      refine zh zJ_232 (i := (0, 0, 0, 1)) rfl rfl (k' := 19) (lo' := [(1, .int c), (0, .ref a)]) (st' := [.int (Int32.ofInt (1)), .int (Int32.ofInt (1)), .ref a]) (h' := h3) rfl ?_
      refine zh_run (rest := []) (as := [.ref a, .int (Int32.ofInt (1)), .int (Int32.ofInt (1))]) zJ_232 (i := (54, 176, 2, 9)) rfl (by decide) (zcal54 (xs := [.int (Int32.ofInt (1)), .int (Int32.ofInt (1))]) (by omega) rfl rfl he3 rfl (Nat.le_of_ble_eq_true rfl) (M' := z_m176) rfl (Nat.le_of_ble_eq_true rfl)) (zS_176b _ T3 E3 ha) (fun o hh x y q => ?_)
      obtain ⟨v, rfl, rfl, rfl, rfl, T4, E4, F4⟩ := q
      refine ⟨_, rfl, rfl, rfl, ?_⟩
      show z_ok sx d 232 20 [(1, .int c), (0, .ref a)] [.int (Int32.ofInt (1))] hh _
      have N4 := N3.keep T4 ha F4 (zNin _ _ _ (by decide +kernel))
      refine zh_if zJ_232 (a := 23) (b := 0) (z := 0) rfl (fun hc7 => ?_) (fun hc7 => ?_)
      · exact absurd hc7 (by decide)
      · refine zh zJ_232 (i := (0, 0, 0, 0)) rfl rfl (k' := 22) (lo' := [(1, .int c), (0, .ref a)]) (st' := [.int (Int32.ofInt (0))]) (h' := hh) rfl ?_
        refine zh_iret zJ_232 (a := 0) (b := 0) (z := 0) rfl (Or.inl rfl) ?_
        exact ⟨_, rfl, rfl, rfl, ⟨_, rfl⟩, T4, E4, (F0.tr zExt.rf (F3.wide (by decide +kernel))).tr zExt.rf (F4.wide (by decide +kernel)), N4⟩
end
section
/-! the reference's deed; printed with wip/gen/gen_rd6.py -/
noncomputable def zX2 : zCut := (2, [(0, (2, 20, 20)), (1, (0, 1, 1))], [], [(0, 0, 0, 2), (0, 0, 0, 0), (0, 0, 0, 0)])
noncomputable def zX16 : zCut := (16, [(0, (2, 20, 20)), (1, (0, 1, 1)), (2, (0, 0, 14))], [(0, 10, (0, 0, 400)), (0, 11, (0, 0, 400)), (0, 16, (0, 0, 0))], [(0, 0, 0, 1), (1, 2, 0, 14), (0, 0, 0, 1)])
noncomputable def zC_ra : zCt := (230, [(2, 20, 20), (0, 1, 1)], [(0, -1, 14)], [], [(20, 10, 10), (20, 12, 12), (20, 16, 16), (21, 0, 1), (21, 4, 4), (21, 10, 13), (21, 16, 87)], 24, (0, 0, 0, 0), [zX2, zX16])
theorem zK_ra2 : zx z_tt zCtl zCand 273 zC_ra (some zX2) 4000 (zc_st zC_ra zX2) = true := by decide +kernel
theorem zK_ra16 : zx z_tt zCtl zCand 273 zC_ra (some zX16) 4000 (zc_st zC_ra zX16) = true := by decide +kernel
noncomputable def zDm : List zMod := [(20, 0, 0), (20, 7, 7), (20, 9, 14), (20, 16, 16), (21, 0, 1236), (23, 0, 1236)]
theorem zNi.keep' {ms : List zMod} {ty ty' : List Nat} {h h' : zH} {a : Nat} (T' : zTY z_tt ty' h') (X : zExt ty ty') (ha : ty[a]? = some 20) (F : zFm ms ty h h') (hm : ¬ zIn ms 20 9) (H : zNi h a) : zNi h' a := by
  obtain ⟨fs, he, h9⟩ := H
  obtain ⟨fs', he', hl'⟩ := zcell0 (c := 9) (n := 23) T' (X a 20 ha) rfl rfl rfl
  have := F.2 a 20 _ _ ha he he' 9 hm
  exact ⟨fs', he', this.trans h9⟩
set_option maxRecDepth 100000 in
theorem zS_230t {sx : zX} {ty : List Nat} {a d : Nat} {h : zH} (H : ∀ c, c < 273 → ∀ c', zCtl[c]? = some c' → zVd z_tt zE1 c') (hd : 24 ≤ d) (T : zTY z_tt ty h) (E : zE1 ty h) (ha : ty[a]? = some 20) : z_ok sx d 230 0 (lv_args 0 [.ref a, .int (Int32.ofInt (1))]) [] h (zRq (fun v h' => (∃ c : Int32, v = some (.int c)) ∧ ∃ ty', zExt ty ty' ∧ zTY z_tt ty' h' ∧ zE1 ty' h' ∧ zFm zDm ty h h' ∧ zNi h' a)) := by
  show z_ok sx d 230 0 [(0, .ref a), (1, .int (Int32.ofInt (1)))] [] h _
  refine zh zJ_230 (i := (2, 0, 0, 0)) rfl rfl (k' := 1) (lo' := [(0, .ref a), (1, .int (Int32.ofInt (1)))]) (st' := [.ref a]) (h' := h) rfl ?_
  obtain ⟨fs, he, hl⟩ := zcell0 (c := 9) (n := 23) T ha rfl rfl rfl
  refine zh_run (rest := []) (as := [.ref a]) zJ_230 (i := (54, 210, 0, 9)) rfl (by decide) (zcal54 (xs := []) (by omega) rfl rfl he rfl (Nat.le_of_ble_eq_true rfl) (M' := z_m210) rfl (Nat.le_of_ble_eq_true rfl)) (zS_210 T E ha) (fun o hh x y q => ?_)
  obtain ⟨v, rfl, rfl, rfl, rfl, T1, E1, F1, N1⟩ := q
  refine ⟨_, rfl, rfl, rfl, ?_⟩
  have hgo := zcut_ok (sx := sx) (d0 := d) (ty0 := ty) (h0 := hh) (ct := zC_ra) (own := 273) (cts := zCtl) (cand := zCand) (N := 3) (fuel := 4000) (zE1_stable (by decide +kernel)) hd (fun c hc c' hc' => H c hc c' hc') (by decide +kernel) (fun c hc => by
    rcases List.mem_cons.mp hc with rfl | hc
    · exact zK_ra2
    · rw [List.mem_singleton.mp hc]; exact zK_ra16) (zX2.2.2.2.map (zmc [(0, .ref a), (1, .int (Int32.ofInt (1)))] hh)) rfl zX2 List.mem_cons_self ty [(0, .ref a), (1, .int (Int32.ofInt (1)))] hh [.ref a, .int (Int32.ofInt (1))] [] rfl zExt.rf T1 E1 zFm.rf ⟨rfl, ⟨a, 20, rfl, ha, Int.le_refl _, Int.le_refl _⟩, rfl, ⟨_, rfl, by decide, by decide⟩, trivial⟩ trivial
  refine z_ok.imp hgo (fun o h2 x y q => ?_)
  have q : zPo z_tt zE1 zC_ra ty hh o h2 (x + 0) (y + 0) := q
  obtain ⟨ty', X, T2, E2, F2, q⟩ := q
  cases o with
  | inr e => exact absurd q.1 List.not_mem_nil
  | inl v =>
  obtain ⟨q1, q2, q3⟩ := q
  have q2 : x + 0 ≤ 0 := q2
  have q3 : y + 0 ≤ 0 := q3
  cases v with
  | none => exact q1.elim
  | some v =>
  obtain ⟨c, rfl, c1, c2⟩ := q1
  exact ⟨_, rfl, by omega, by omega, ⟨c, rfl⟩, ty', X, T2, E2, (F1.wide (by decide +kernel)).tr zExt.rf (F2.wide (by decide +kernel)), N1.keep' T2 X ha F2 (zNin _ _ _ (by decide +kernel))⟩
theorem zJ_231 : zJ3 231 z_m231 z_c231 z_h231 := ⟨rfl, rfl, rfl⟩
set_option maxRecDepth 100000 in
theorem zLp_231a {sx : zX} {d : Nat} {Ψ : zO → zH → Nat → Nat → Prop} {ty : List Nat} {h0 : zH} {a w1 w2 : Nat} {gs : List Value} {f1 : Nat → Int32} {ms : List zMod} (ha : ty[a]? = some 20) (ht1 : ty[w1]? = some 21) (ht2 : ty[w2]? = some 23) (hg1 : gs[1]? = some (.ref w1)) (hg3 : gs[3]? = some (.ref w2)) (hm : zcv ms 23 ((0 : Nat) : Int) (((0 + 1237 : Nat) : Int) - 1) = true) (kk : ∀ (x : Int32) (h : zH), zQc ty h0 a gs w1 2086 f1 w2 1237 ms 0 0 1237 h → z_ok sx d 231 15 [(1, .int x), (0, .ref a)] [] h Ψ) {h : zH} (q : zQc ty h0 a gs w1 2086 f1 w2 1237 ms 0 0 0 h) : z_ok sx d 231 2 [(1, .int (Int32.ofInt (0))), (0, .ref a)] [] h Ψ := by
  refine zloop (fun x => [(1, .int x), (0, .ref a)]) 1237 (zQc ty h0 a gs w1 2086 f1 w2 1237 ms 0 0) (fun i x h hx hi q kk => ?_) (fun x h hx q => ?_) 1237 0 _ h rfl rfl q
  · obtain ⟨T, F, he, h1, g, h2, hg⟩ := q
    refine zh zJ_231 (i := (1, 1, 0, 0)) rfl rfl (k' := 3) (lo' := [(1, .int x), (0, .ref a)]) (st' := [.int x]) (h' := h) rfl ?_
    refine zh zJ_231 (i := (0, 0, 0, 1237)) rfl rfl (k' := 4) (lo' := [(1, .int x), (0, .ref a)]) (st' := [.int (Int32.ofInt (1237)), .int x]) (h' := h) rfl ?_
    refine zh_icmp zJ_231 (a := 15) (b := 3) (z := 0) rfl (fun hc => ?_) (fun hc => ?_)
    · exact absurd (zcmp_ge.mp hc) (by rw [hx, z_of32 (by omega) (by omega)]; omega)
    refine zh zJ_231 (i := (2, 0, 0, 0)) rfl rfl (k' := 6) (lo' := [(1, .int x), (0, .ref a)]) (st' := [.ref a]) (h' := h) rfl ?_
    refine zh_get zJ_231 (a := a) (b := 3) (c := 9) (z := 0) rfl (k' := 7) rfl he hg3 ?_
    refine zh zJ_231 (i := (1, 1, 0, 0)) rfl rfl (k' := 8) (lo' := [(1, .int x), (0, .ref a)]) (st' := [.int x, .ref w2]) (h' := h) rfl ?_
    refine zh zJ_231 (i := (2, 0, 0, 0)) rfl rfl (k' := 9) (lo' := [(1, .int x), (0, .ref a)]) (st' := [.ref a, .int x, .ref w2]) (h' := h) rfl ?_
    refine zh_get zJ_231 (a := a) (b := 1) (c := 9) (z := 0) rfl (k' := 10) rfl he hg1 ?_
    refine zh zJ_231 (i := (1, 1, 0, 0)) rfl rfl (k' := 11) (lo' := [(1, .int x), (0, .ref a)]) (st' := [.int x, .ref w1, .int x, .ref w2]) (h' := h) rfl ?_
    refine zh_iald zJ_231 (z := 0) rfl (k' := 12) rfl h1 (by omega) (by omega) ?_
    refine zh_iast zJ_231 (z := 0) rfl (k' := 13) rfl h2 (by omega) (by omega) ?_
    refine zh zJ_231 (i := (7, 1, 0, 1)) rfl rfl (k' := 14) (lo' := [(1, .int (x + Int32.ofInt (1))), (0, .ref a)]) (st' := []) (h' := (h.set w2 (.inl (0, (1237, .inl (upd g x.toNatClampNeg (f1 x.toNatClampNeg))))))) rfl ?_
    refine zh zJ_231 (i := (30, 2, 0, 0)) rfl rfl (k' := 2) (lo' := [(1, .int (x + Int32.ofInt (1))), (0, .ref a)]) (st' := []) (h' := (h.set w2 (.inl (0, (1237, .inl (upd g x.toNatClampNeg (f1 x.toNatClampNeg))))))) rfl ?_
    refine kk _ _ (zinc hx (by omega)) ?_
    rw [znat hx]
    have := zQc_step (N := 1237) (t1 := 21) (t2 := 23) ⟨T, F, he, h1, h2, hg⟩ hi (by omega) (by omega) ha ht1 ht2 (by decide) (by decide) (zreg_same (N := 1237) (by decide +kernel) hi) hm
    rw [Nat.zero_add] at this
    exact this
  · refine zh zJ_231 (i := (1, 1, 0, 0)) rfl rfl (k' := 3) (lo' := [(1, .int x), (0, .ref a)]) (st' := [.int x]) (h' := h) rfl ?_
    refine zh zJ_231 (i := (0, 0, 0, 1237)) rfl rfl (k' := 4) (lo' := [(1, .int x), (0, .ref a)]) (st' := [.int (Int32.ofInt (1237)), .int x]) (h' := h) rfl ?_
    refine zh_icmp zJ_231 (a := 15) (b := 3) (z := 0) rfl (fun hc => ?_) (fun hc => ?_)
    · exact kk x h q
    · exact absurd (zcmp_ge.mpr (by rw [hx, z_of32 (by omega) (by omega)]; omega)) hc
set_option maxRecDepth 100000 in
theorem zLp_231b {sx : zX} {d : Nat} {r : Int32} {Ψ : zO → zH → Nat → Nat → Prop} {ty : List Nat} {h0 : zH} {a w1 w2 : Nat} {gs : List Value} {f1 : Nat → Int32} {ms : List zMod} (ha : ty[a]? = some 20) (ht1 : ty[w1]? = some 23) (ht2 : ty[w2]? = some 21) (hg3 : gs[3]? = some (.ref w1)) (hg1 : gs[1]? = some (.ref w2)) (hm : zcv ms 21 ((0 : Nat) : Int) (((0 + 1237 : Nat) : Int) - 1) = true) (kk : ∀ (x : Int32) (h : zH), zQc ty h0 a gs w1 1237 f1 w2 2086 ms 0 0 1237 h → z_ok sx d 231 64 [(2, .int x), (1, .int r), (0, .ref a)] [] h Ψ) {h : zH} (q : zQc ty h0 a gs w1 1237 f1 w2 2086 ms 0 0 0 h) : z_ok sx d 231 51 [(2, .int (Int32.ofInt (0))), (1, .int r), (0, .ref a)] [] h Ψ := by
  refine zloop (fun x => [(2, .int x), (1, .int r), (0, .ref a)]) 1237 (zQc ty h0 a gs w1 1237 f1 w2 2086 ms 0 0) (fun i x h hx hi q kk => ?_) (fun x h hx q => ?_) 1237 0 _ h rfl rfl q
  · obtain ⟨T, F, he, h1, g, h2, hg⟩ := q
    refine zh zJ_231 (i := (1, 2, 0, 0)) rfl rfl (k' := 52) (lo' := [(2, .int x), (1, .int r), (0, .ref a)]) (st' := [.int x]) (h' := h) rfl ?_
    refine zh zJ_231 (i := (0, 0, 0, 1237)) rfl rfl (k' := 53) (lo' := [(2, .int x), (1, .int r), (0, .ref a)]) (st' := [.int (Int32.ofInt (1237)), .int x]) (h' := h) rfl ?_
    refine zh_icmp zJ_231 (a := 64) (b := 3) (z := 0) rfl (fun hc => ?_) (fun hc => ?_)
    · exact absurd (zcmp_ge.mp hc) (by rw [hx, z_of32 (by omega) (by omega)]; omega)
    refine zh zJ_231 (i := (2, 0, 0, 0)) rfl rfl (k' := 55) (lo' := [(2, .int x), (1, .int r), (0, .ref a)]) (st' := [.ref a]) (h' := h) rfl ?_
    refine zh_get zJ_231 (a := a) (b := 1) (c := 9) (z := 0) rfl (k' := 56) rfl he hg1 ?_
    refine zh zJ_231 (i := (1, 2, 0, 0)) rfl rfl (k' := 57) (lo' := [(2, .int x), (1, .int r), (0, .ref a)]) (st' := [.int x, .ref w2]) (h' := h) rfl ?_
    refine zh zJ_231 (i := (2, 0, 0, 0)) rfl rfl (k' := 58) (lo' := [(2, .int x), (1, .int r), (0, .ref a)]) (st' := [.ref a, .int x, .ref w2]) (h' := h) rfl ?_
    refine zh_get zJ_231 (a := a) (b := 3) (c := 9) (z := 0) rfl (k' := 59) rfl he hg3 ?_
    refine zh zJ_231 (i := (1, 2, 0, 0)) rfl rfl (k' := 60) (lo' := [(2, .int x), (1, .int r), (0, .ref a)]) (st' := [.int x, .ref w1, .int x, .ref w2]) (h' := h) rfl ?_
    refine zh_iald zJ_231 (z := 0) rfl (k' := 61) rfl h1 (by omega) (by omega) ?_
    refine zh_iast zJ_231 (z := 0) rfl (k' := 62) rfl h2 (by omega) (by omega) ?_
    refine zh zJ_231 (i := (7, 2, 0, 1)) rfl rfl (k' := 63) (lo' := [(2, .int (x + Int32.ofInt (1))), (1, .int r), (0, .ref a)]) (st' := []) (h' := (h.set w2 (.inl (0, (2086, .inl (upd g x.toNatClampNeg (f1 x.toNatClampNeg))))))) rfl ?_
    refine zh zJ_231 (i := (30, 51, 0, 0)) rfl rfl (k' := 51) (lo' := [(2, .int (x + Int32.ofInt (1))), (1, .int r), (0, .ref a)]) (st' := []) (h' := (h.set w2 (.inl (0, (2086, .inl (upd g x.toNatClampNeg (f1 x.toNatClampNeg))))))) rfl ?_
    refine kk _ _ (zinc hx (by omega)) ?_
    rw [znat hx]
    have := zQc_step (N := 1237) (t1 := 23) (t2 := 21) ⟨T, F, he, h1, h2, hg⟩ hi (by omega) (by omega) ha ht1 ht2 (by decide) (by decide) (zreg_same (N := 1237) (by decide +kernel) hi) hm
    rw [Nat.zero_add] at this
    exact this
  · refine zh zJ_231 (i := (1, 2, 0, 0)) rfl rfl (k' := 52) (lo' := [(2, .int x), (1, .int r), (0, .ref a)]) (st' := [.int x]) (h' := h) rfl ?_
    refine zh zJ_231 (i := (0, 0, 0, 1237)) rfl rfl (k' := 53) (lo' := [(2, .int x), (1, .int r), (0, .ref a)]) (st' := [.int (Int32.ofInt (1237)), .int x]) (h' := h) rfl ?_
    refine zh_icmp zJ_231 (a := 64) (b := 3) (z := 0) rfl (fun hc => ?_) (fun hc => ?_)
    · exact kk x h q
    · exact absurd (zcmp_ge.mpr (by rw [hx, z_of32 (by omega) (by omega)]; omega)) hc
set_option maxRecDepth 100000 in
theorem zTl_231 {sx : zX} {ty0 ty : List Nat} {a d : Nat} {h0 h : zH} {r : Int32} (X : zExt ty0 ty) (T : zTY z_tt ty h) (E : zE1 ty h) (F : zFm zDm ty0 h0 h) (N : zNi h a) (ha : ty[a]? = some 20) : z_ok sx d 231 49 [(1, .int r), (0, .ref a)] [] h (zRq (fun v h' => (∃ c : Int32, v = some (.int c)) ∧ ∃ ty', zExt ty0 ty' ∧ zTY z_tt ty' h' ∧ zE1 ty' h' ∧ zFm zDm ty0 h0 h' ∧ zNi h' a)) := by
  refine zh zJ_231 (i := (0, 0, 0, 0)) rfl rfl (k' := 50) (lo' := [(1, .int r), (0, .ref a)]) (st' := [.int (Int32.ofInt (0))]) (h' := h) rfl ?_
  refine zh zJ_231 (i := (4, 2, 0, 0)) rfl rfl (k' := 51) (lo' := [(2, .int (Int32.ofInt (0))), (1, .int r), (0, .ref a)]) (st' := []) (h' := h) rfl ?_
  obtain ⟨fs, he, hl⟩ := zcell0 (c := 9) (n := 23) T ha rfl rfl rfl
  obtain ⟨w1, g1, hw1⟩ := zfd2 (b := 3) (u := 23) T ha he (by omega) (by decide +kernel)
  obtain ⟨w2, g2, hw2⟩ := zfd2 (b := 1) (u := 21) T ha he (by omega) (by decide +kernel)
  obtain ⟨f1, hf1⟩ := zcell1 (n := 1237) T hw1 rfl rfl
  obtain ⟨g, hg⟩ := zcell1 (n := 2086) T hw2 rfl rfl
  refine zLp_231b (ms := [(21, 0, 1236)]) (h0 := h) ha hw1 hw2 g1 g2 (by decide +kernel) (fun x h2 q => ?_) ⟨T, zFm.rf, he, hf1, g, hg, fun k hk => absurd hk (by omega)⟩
  obtain ⟨T2, F2, he2, hs2, g9, hd2, hcp⟩ := q
  have L1 : zLT f1 := E.2 w1 23 _ f1 hw1 (Or.inr (Or.inr rfl)) hf1
  have E2 : zE1 ty h2 := ⟨E.1, fun b9 t9 n9 f9 hb9 hz hbf => by
    rcases hz with rfl | rfl | rfl
    · have e := E.1 b9 w2 21 (by omega) (by omega) hb9 hw2
      subst e
      rw [hd2] at hbf
      cases hbf
      exact zLT_congr (fun k k1 k2 => by have := hcp k (by omega); rw [Nat.zero_add] at this; exact this) L1
    · exact zEt_keep T T2 F2 hb9 (Or.inr (Or.inl rfl)) hbf (fun i h1 h2 => znt_ok (by decide +kernel) h1 h2) E.2
    · exact zEt_keep T T2 F2 hb9 (Or.inr (Or.inr rfl)) hbf (fun i h1 h2 => znt_ok (by decide +kernel) h1 h2) E.2⟩
  refine zh zJ_231 (i := (0, 0, 0, 0)) rfl rfl (k' := 65) (lo' := [(2, .int x), (1, .int r), (0, .ref a)]) (st' := [.int (Int32.ofInt (0))]) (h' := h2) rfl ?_
  refine zh_iret zJ_231 (a := 0) (b := 0) (z := 0) rfl (Or.inl rfl) ?_
  exact ⟨_, rfl, rfl, rfl, ⟨_, rfl⟩, ty, X, T2, E2, F.tr X (F2.wide (by decide +kernel)), N.keep T2 ha F2 (zNin _ _ _ (by decide +kernel))⟩
set_option maxRecDepth 100000 in
theorem zTm_231 {sx : zX} {ty0 ty : List Nat} {a d : Nat} {h0 h : zH} {r : Int32} (X : zExt ty0 ty) (T : zTY z_tt ty h) (E : zE1 ty h) (F : zFm zDm ty0 h0 h) (N : zNi h a) (ha : ty[a]? = some 20) : z_ok sx d 231 66 [(1, .int r), (0, .ref a)] [] h (zRq (fun v h' => (∃ c : Int32, v = some (.int c)) ∧ ∃ ty', zExt ty0 ty' ∧ zTY z_tt ty' h' ∧ zE1 ty' h' ∧ zFm zDm ty0 h0 h' ∧ zNi h' a)) := by
  obtain ⟨fs, he, hl⟩ := zcell0 (c := 9) (n := 23) T ha rfl rfl rfl
  obtain ⟨w, g1, hw⟩ := zfd2 (b := 1) (u := 21) T ha he (by omega) (by decide +kernel)
  obtain ⟨g, hg⟩ := zcell1 (n := 2086) T hw rfl rfl
  have hn : w ≠ a := fun e => by rw [e, ha] at hw; cases hw
  refine zh zJ_231 (i := (2, 0, 0, 0)) rfl rfl (k' := 67) (lo' := [(1, .int r), (0, .ref a)]) (st' := [.ref a]) (h' := h) rfl ?_
  refine zh_get zJ_231 (b := 1) (c := 9) (z := 0) rfl (k' := 68) rfl he g1 ?_
  refine zh zJ_231 (i := (0, 0, 0, 2)) rfl rfl (k' := 69) (lo' := [(1, .int r), (0, .ref a)]) (st' := [.int (Int32.ofInt (2)), .ref w]) (h' := h) rfl ?_
  refine zh zJ_231 (i := (28, 0, 0, 0)) rfl rfl (k' := 70) (lo' := [(1, .int r), (0, .ref a)]) (st' := [.int (Int32.ofInt (2)), .ref w, .int (Int32.ofInt (2)), .ref w]) (h' := h) rfl ?_
  refine zh_iald zJ_231 (z := 0) rfl (k' := 71) rfl hg (by decide) (by decide) ?_
  generalize g (Int32.ofInt (2)).toNatClampNeg = u
  refine zh zJ_231 (i := (0, 0, 0, 1)) rfl rfl (k' := 72) (lo' := [(1, .int r), (0, .ref a)]) (st' := [.int (Int32.ofInt (1)), .int u, .int (Int32.ofInt (2)), .ref w]) (h' := h) rfl ?_
  refine zh zJ_231 (i := (8, 0, 0, 0)) rfl rfl (k' := 73) (lo' := [(1, .int r), (0, .ref a)]) (st' := [.int (u + (Int32.ofInt (1))), .int (Int32.ofInt (2)), .ref w]) (h' := h) rfl ?_
  obtain ⟨T6, F6⟩ := zwr (ms := [(21, 2, 3)]) T hw hg (i := 2) (x := (u + Int32.ofInt (1))) (by omega) (zst_ok (a := zFull) (ilo := 2) (ihi := 3) (by decide +kernel) (zFull_ok _) (by omega) (by omega)) (zcv_ok (lo := 2) (hi := 3) (by decide +kernel) (by omega) (by omega))
  have E6 := zE1_stable (ms := [(21, 2, 3)]) (by decide +kernel) ty h _ T T6 (T.len T6) F6 E
  have he6 := (zset_ne (h := h) (e := .inl (0, (2086, .inl (upd g 2 (u + Int32.ofInt (1)))))) hn).trans he
  have hg6 := zset_eq (e := .inl (0, (2086, .inl (upd g 2 (u + Int32.ofInt (1)))))) hg
  have N6 := N.keep T6 ha F6 (zNin _ _ _ (by decide +kernel))
  refine zh_iast zJ_231 (z := 0) rfl (k' := 74) rfl hg (by decide) (by decide) ?_
  rw [show (Int32.ofInt (2)).toNatClampNeg = 2 from by decide +kernel]
  generalize h.set w (.inl (0, (2086, .inl (upd g 2 (u + Int32.ofInt (1)))))) = h6 at T6 F6 E6 he6 hg6 N6 ⊢
  refine zh zJ_231 (i := (2, 0, 0, 0)) rfl rfl (k' := 75) (lo' := [(1, .int r), (0, .ref a)]) (st' := [.ref a]) (h' := h6) rfl ?_
  refine zh zJ_231 (i := (0, 0, 0, 0)) rfl rfl (k' := 76) (lo' := [(1, .int r), (0, .ref a)]) (st' := [.int (Int32.ofInt (0)), .ref a]) (h' := h6) rfl ?_
  refine zputT zJ_231 (k' := 77) rfl rfl T6 E6 ha he6 (by omega) (zK0 (by decide) (by decide)) (by decide +kernel) [(20, 7, 7)] (by decide +kernel) (by decide +kernel) rfl (fun h7 T7 E7 F7 he7 hq7 => ?_)
  have N7 := N6.keep T7 ha F7 (zNin _ _ _ (by decide +kernel))
  refine zh zJ_231 (i := (2, 0, 0, 0)) rfl rfl (k' := 78) (lo' := [(1, .int r), (0, .ref a)]) (st' := [.ref a]) (h' := h7) rfl ?_
  refine zh_get zJ_231 (b := 1) (c := 9) (z := 0) rfl (k' := 79) rfl he7 ((List.getElem?_set_ne (by decide)).trans g1) ?_
  refine zh zJ_231 (i := (0, 0, 0, 2)) rfl rfl (k' := 80) (lo' := [(1, .int r), (0, .ref a)]) (st' := [.int (Int32.ofInt (2)), .ref w]) (h' := h7) rfl ?_
  refine zh_iald zJ_231 (z := 0) rfl (k' := 81) rfl ((hq7 w hn).trans hg6) (by decide) (by decide) ?_
  refine zh_iret zJ_231 (a := 0) (b := 0) (z := 0) rfl (Or.inl rfl) ?_
  exact ⟨_, rfl, rfl, rfl, ⟨_, rfl⟩, ty, X, T7, E7, (F.tr X (F6.wide (by decide +kernel))).tr X (F7.wide (by decide +kernel)), N7⟩
set_option maxRecDepth 100000 in
theorem zS_231 {sx : zX} {ty : List Nat} {a d : Nat} {h : zH} (H : ∀ c, c < 273 → ∀ c', zCtl[c]? = some c' → zVd z_tt zE1 c') (hd : 26 ≤ d) (T : zTY z_tt ty h) (E : zE1 ty h) (ha : ty[a]? = some 20) : z_ok sx d 231 0 (lv_args 0 [.ref a]) [] h (zRq (fun v h' => (∃ c : Int32, v = some (.int c)) ∧ ∃ ty', zExt ty ty' ∧ zTY z_tt ty' h' ∧ zE1 ty' h' ∧ zFm zDm ty h h' ∧ zNi h' a)) := by
  show z_ok sx d 231 0 [(0, .ref a)] [] h _
  refine zh zJ_231 (i := (0, 0, 0, 0)) rfl rfl (k' := 1) (lo' := [(0, .ref a)]) (st' := [.int (Int32.ofInt (0))]) (h' := h) rfl ?_
  refine zh zJ_231 (i := (4, 1, 0, 0)) rfl rfl (k' := 2) (lo' := [(1, .int (Int32.ofInt (0))), (0, .ref a)]) (st' := []) (h' := h) rfl ?_
  obtain ⟨fs, he, hl⟩ := zcell0 (c := 9) (n := 23) T ha rfl rfl rfl
  obtain ⟨w1, g1, hw1⟩ := zfd2 (b := 1) (u := 21) T ha he (by omega) (by decide +kernel)
  obtain ⟨w2, g2, hw2⟩ := zfd2 (b := 3) (u := 23) T ha he (by omega) (by decide +kernel)
  obtain ⟨f1, hf1⟩ := zcell1 (n := 2086) T hw1 rfl rfl
  obtain ⟨g, hg⟩ := zcell1 (n := 1237) T hw2 rfl rfl
  refine zLp_231a (ms := [(23, 0, 1236)]) (h0 := h) ha hw1 hw2 g1 g2 (by decide +kernel) (fun x h2 q => ?_) ⟨T, zFm.rf, he, hf1, g, hg, fun k hk => absurd hk (by omega)⟩
  obtain ⟨T2, F2, he2, hs2, g9, hd2, hcp⟩ := q
  have L1 : zLT f1 := E.2 w1 21 _ f1 hw1 (Or.inl rfl) hf1
  have E2 : zE1 ty h2 := ⟨E.1, fun b9 t9 n9 f9 hb9 hz hbf => by
    rcases hz with rfl | rfl | rfl
    · exact zEt_keep T T2 F2 hb9 (Or.inl rfl) hbf (fun i h1 h2 => znt_ok (by decide +kernel) h1 h2) E.2
    · exact zEt_keep T T2 F2 hb9 (Or.inr (Or.inl rfl)) hbf (fun i h1 h2 => znt_ok (by decide +kernel) h1 h2) E.2
    · have e := E.1 b9 w2 23 (by omega) (by omega) hb9 hw2
      subst e
      rw [hd2] at hbf
      cases hbf
      exact zLT_congr (fun k k1 k2 => by have := hcp k (by omega); rw [Nat.zero_add] at this; exact this) L1⟩
  refine zh zJ_231 (i := (2, 0, 0, 0)) rfl rfl (k' := 16) (lo' := [(1, .int x), (0, .ref a)]) (st' := [.ref a]) (h' := h2) rfl ?_
  refine zh zJ_231 (i := (0, 0, 0, 1)) rfl rfl (k' := 17) (lo' := [(1, .int x), (0, .ref a)]) (st' := [.int (Int32.ofInt (1)), .ref a]) (h' := h2) rfl ?_
  refine zh_run (rest := []) (as := [.ref a, .int (Int32.ofInt (1))]) zJ_231 (i := (54, 230, 1, 9)) rfl (by decide) (zcal54 (xs := [.int (Int32.ofInt (1))]) (by omega) rfl rfl he2 rfl (Nat.le_of_ble_eq_true rfl) (M' := z_m230) rfl (Nat.le_of_ble_eq_true rfl)) (zS_230t H (by omega) T2 E2 ha) (fun o hh x y q => ?_)
  obtain ⟨v, rfl, rfl, rfl, ⟨c, rfl⟩, ty', X, T3, E3, F3, N3⟩ := q
  refine ⟨_, rfl, rfl, rfl, ?_⟩
  have F0 : zFm zDm ty h hh := (F2.wide (by decide +kernel)).tr zExt.rf F3
  have ha' := X a 20 ha
  obtain ⟨gs, hgs, hlg⟩ := zcell0 (c := 9) (n := 23) T3 ha' rfl rfl rfl
  show z_ok sx d 231 18 [(1, .int x), (0, .ref a)] [.int c] hh _
  refine zh zJ_231 (i := (4, 1, 0, 0)) rfl rfl (k' := 19) (lo' := [(1, .int c), (0, .ref a)]) (st' := []) (h' := hh) rfl ?_
  refine zh zJ_231 (i := (2, 0, 0, 0)) rfl rfl (k' := 20) (lo' := [(1, .int c), (0, .ref a)]) (st' := [.ref a]) (h' := hh) rfl ?_
  refine zh zJ_231 (i := (1, 1, 0, 0)) rfl rfl (k' := 21) (lo' := [(1, .int c), (0, .ref a)]) (st' := [.int c, .ref a]) (h' := hh) rfl ?_
  refine zh_if zJ_231 (a := 25) (b := 3) (z := 0) rfl (fun hc1 => ?_) (fun hc1 => ?_)
  · refine zh zJ_231 (i := (0, 0, 0, -1)) rfl rfl (k' := 26) (lo' := [(1, .int c), (0, .ref a)]) (st' := [.int (Int32.ofInt (-1)), .ref a]) (h' := hh) rfl ?_
    refine zputT zJ_231 (k' := 27) rfl rfl T3 E3 ha' hgs (by omega) (zK0 (by decide) (by decide)) (by decide +kernel) [(20, 14, 14)] (by decide +kernel) (by decide +kernel) rfl (fun h4 T4 E4 F4 he4 hq4 => ?_)
    have N4 := N3.keep T4 ha' F4 (zNin _ _ _ (by decide +kernel))
    have F04 := F0.tr X (F4.wide (ms' := zDm) (by decide +kernel))
    refine zh zJ_231 (i := (2, 0, 0, 0)) rfl rfl (k' := 28) (lo' := [(1, .int c), (0, .ref a)]) (st' := [.ref a]) (h' := h4) rfl ?_
    refine zh zJ_231 (i := (1, 1, 0, 0)) rfl rfl (k' := 29) (lo' := [(1, .int c), (0, .ref a)]) (st' := [.int c, .ref a]) (h' := h4) rfl ?_
    refine zh_if zJ_231 (a := 32) (b := 3) (z := 0) rfl (fun hc2 => ?_) (fun hc2 => ?_)
    · refine zh zJ_231 (i := (0, 0, 0, 0)) rfl rfl (k' := 33) (lo' := [(1, .int c), (0, .ref a)]) (st' := [.int (Int32.ofInt (0)), .ref a]) (h' := h4) rfl ?_
      refine zh zJ_231 (i := (0, 0, 0, 1)) rfl rfl (k' := 34) (lo' := [(1, .int c), (0, .ref a)]) (st' := [.int (Int32.ofInt (1)), .int (Int32.ofInt (0)), .ref a]) (h' := h4) rfl ?_
      refine zh_run (rest := []) (as := [.ref a, .int (Int32.ofInt (0)), .int (Int32.ofInt (1))]) zJ_231 (i := (54, 176, 2, 9)) rfl (by decide) (zcal54 (xs := [.int (Int32.ofInt (1)), .int (Int32.ofInt (0))]) (by omega) rfl rfl he4 rfl (Nat.le_of_ble_eq_true rfl) (M' := z_m176) rfl (Nat.le_of_ble_eq_true rfl)) (zS_176a _) (fun o hh x y q => ?_)
      obtain ⟨v, rfl, rfl, rfl, rfl, rfl⟩ := q
      refine ⟨_, rfl, rfl, rfl, ?_⟩
      show z_ok sx d 231 35 [(1, .int c), (0, .ref a)] [.int (Int32.ofInt (0))] hh _
      refine zh_if zJ_231 (a := 49) (b := 1) (z := 0) rfl (fun hc3 => ?_) (fun hc3 => ?_)
      · exact absurd hc3 (by decide)
      · obtain ⟨ks, hks, hlk⟩ := zcell0 (c := 9) (n := 23) T4 ha' rfl rfl rfl
        obtain ⟨w, k1, hw⟩ := zfd2 (b := 1) (u := 21) T4 ha' hks (by omega) (by decide +kernel)
        obtain ⟨wf, hwf⟩ := zcell1 (n := 2086) T4 hw rfl rfl
        refine zh zJ_231 (i := (2, 0, 0, 0)) rfl rfl (k' := 37) (lo' := [(1, .int c), (0, .ref a)]) (st' := [.ref a]) (h' := hh) rfl ?_
        refine zh zJ_231 (i := (2, 0, 0, 0)) rfl rfl (k' := 38) (lo' := [(1, .int c), (0, .ref a)]) (st' := [.ref a, .ref a]) (h' := hh) rfl ?_
        refine zh_get zJ_231 (b := 1) (c := 9) (z := 0) rfl (k' := 39) rfl hks k1 ?_
        refine zh zJ_231 (i := (0, 0, 0, 2)) rfl rfl (k' := 40) (lo' := [(1, .int c), (0, .ref a)]) (st' := [.int (Int32.ofInt (2)), .ref w, .ref a]) (h' := hh) rfl ?_
        refine zh_iald zJ_231 (z := 0) rfl (k' := 41) rfl hwf (by decide) (by decide) ?_
        generalize wf (Int32.ofInt (2)).toNatClampNeg = u
        refine zh zJ_231 (i := (0, 0, 0, 12)) rfl rfl (k' := 42) (lo' := [(1, .int c), (0, .ref a)]) (st' := [.int (Int32.ofInt (12)), .int u, .ref a]) (h' := hh) rfl ?_
        refine zh_icmp zJ_231 (a := 45) (b := 1) (z := 0) rfl (fun hc4 => ?_) (fun hc4 => ?_)
        · refine zh zJ_231 (i := (0, 0, 0, 0)) rfl rfl (k' := 46) (lo' := [(1, .int c), (0, .ref a)]) (st' := [.int (Int32.ofInt (0)), .ref a]) (h' := hh) rfl ?_
          refine zh zJ_231 (i := (0, 0, 0, 2)) rfl rfl (k' := 47) (lo' := [(1, .int c), (0, .ref a)]) (st' := [.int (Int32.ofInt (2)), .int (Int32.ofInt (0)), .ref a]) (h' := hh) rfl ?_
          refine zh_run (rest := []) (as := [.ref a, .int (Int32.ofInt (0)), .int (Int32.ofInt (2))]) zJ_231 (i := (54, 176, 2, 9)) rfl (by decide) (zcal54 (xs := [.int (Int32.ofInt (2)), .int (Int32.ofInt (0))]) (by omega) rfl rfl hks rfl (Nat.le_of_ble_eq_true rfl) (M' := z_m176) rfl (Nat.le_of_ble_eq_true rfl)) (zS_176a _) (fun o hh x y q => ?_)
          obtain ⟨v, rfl, rfl, rfl, rfl, rfl⟩ := q
          refine ⟨_, rfl, rfl, rfl, ?_⟩
          show z_ok sx d 231 48 [(1, .int c), (0, .ref a)] [.int (Int32.ofInt (0))] hh _
          refine zh_if zJ_231 (a := 66) (b := 0) (z := 0) rfl (fun hc5 => ?_) (fun hc5 => ?_)
          · exact zTm_231 X T4 E4 F04 N4 ha'
          · exact absurd (show z_cmp 0 (Int32.ofInt (0)) 0 = true from rfl) hc5
        · refine zh zJ_231 (i := (0, 0, 0, 1)) rfl rfl (k' := 44) (lo' := [(1, .int c), (0, .ref a)]) (st' := [.int (Int32.ofInt (1)), .ref a]) (h' := hh) rfl ?_
          refine zh zJ_231 (i := (30, 46, 0, 0)) rfl rfl (k' := 46) (lo' := [(1, .int c), (0, .ref a)]) (st' := [.int (Int32.ofInt (1)), .ref a]) (h' := hh) rfl ?_
          refine zh zJ_231 (i := (0, 0, 0, 2)) rfl rfl (k' := 47) (lo' := [(1, .int c), (0, .ref a)]) (st' := [.int (Int32.ofInt (2)), .int (Int32.ofInt (1)), .ref a]) (h' := hh) rfl ?_
          refine zh_run (rest := []) (as := [.ref a, .int (Int32.ofInt (1)), .int (Int32.ofInt (2))]) zJ_231 (i := (54, 176, 2, 9)) rfl (by decide) (zcal54 (xs := [.int (Int32.ofInt (2)), .int (Int32.ofInt (1))]) (by omega) rfl rfl hks rfl (Nat.le_of_ble_eq_true rfl) (M' := z_m176) rfl (Nat.le_of_ble_eq_true rfl)) (zS_176b _ T4 E4 ha') (fun o hh x y q => ?_)
          obtain ⟨v, rfl, rfl, rfl, rfl, T8, E8, F8⟩ := q
          refine ⟨_, rfl, rfl, rfl, ?_⟩
          show z_ok sx d 231 48 [(1, .int c), (0, .ref a)] [.int (Int32.ofInt (1))] hh _
          have N8 := N4.keep T8 ha' F8 (zNin _ _ _ (by decide +kernel))
          refine zh_if zJ_231 (a := 66) (b := 0) (z := 0) rfl (fun hc6 => ?_) (fun hc6 => ?_)
          · exact absurd hc6 (by decide)
          · exact zTl_231 X T8 E8 (F04.tr X (F8.wide (by decide +kernel))) N8 ha'
    · exact absurd hc1 hc2
  · obtain ⟨x12, g12, -⟩ := zfd0 (b := 12) (lo := 0) (hi := 400) T3 ha' hgs (by omega) (by decide +kernel)
    refine zh zJ_231 (i := (2, 0, 0, 0)) rfl rfl (k' := 23) (lo' := [(1, .int c), (0, .ref a)]) (st' := [.ref a, .ref a]) (h' := hh) rfl ?_
    refine zh_get zJ_231 (b := 12) (c := 9) (z := 0) rfl (k' := 24) rfl hgs g12 ?_
    refine zh zJ_231 (i := (30, 26, 0, 0)) rfl rfl (k' := 26) (lo' := [(1, .int c), (0, .ref a)]) (st' := [.int x12, .ref a]) (h' := hh) rfl ?_
    refine zputT zJ_231 (k' := 27) rfl rfl T3 E3 ha' hgs (by omega) (zFull_ok x12) (by decide +kernel) [(20, 14, 14)] (by decide +kernel) (by decide +kernel) rfl (fun h4 T4 E4 F4 he4 hq4 => ?_)
    have N4 := N3.keep T4 ha' F4 (zNin _ _ _ (by decide +kernel))
    refine zh zJ_231 (i := (2, 0, 0, 0)) rfl rfl (k' := 28) (lo' := [(1, .int c), (0, .ref a)]) (st' := [.ref a]) (h' := h4) rfl ?_
    refine zh zJ_231 (i := (1, 1, 0, 0)) rfl rfl (k' := 29) (lo' := [(1, .int c), (0, .ref a)]) (st' := [.int c, .ref a]) (h' := h4) rfl ?_
    refine zh_if zJ_231 (a := 32) (b := 3) (z := 0) rfl (fun hc7 => ?_) (fun hc7 => ?_)
    · exact absurd hc7 hc1
    · refine zh zJ_231 (i := (0, 0, 0, 1)) rfl rfl (k' := 31) (lo' := [(1, .int c), (0, .ref a)]) (st' := [.int (Int32.ofInt (1)), .ref a]) (h' := h4) rfl ?_
      refine zh zJ_231 (i := (30, 33, 0, 0)) rfl rfl (k' := 33) (lo' := [(1, .int c), (0, .ref a)]) (st' := [.int (Int32.ofInt (1)), .ref a]) (h' := h4) rfl ?_
      refine zh zJ_231 (i := (0, 0, 0, 1)) rfl rfl (k' := 34) (lo' := [(1, .int c), (0, .ref a)]) (st' := [.int (Int32.ofInt (1)), .int (Int32.ofInt (1)), .ref a]) (h' := h4) rfl ?_
      refine zh_run (rest := []) (as := [.ref a, .int (Int32.ofInt (1)), .int (Int32.ofInt (1))]) zJ_231 (i := (54, 176, 2, 9)) rfl (by decide) (zcal54 (xs := [.int (Int32.ofInt (1)), .int (Int32.ofInt (1))]) (by omega) rfl rfl he4 rfl (Nat.le_of_ble_eq_true rfl) (M' := z_m176) rfl (Nat.le_of_ble_eq_true rfl)) (zS_176b _ T4 E4 ha') (fun o hh x y q => ?_)
      obtain ⟨v, rfl, rfl, rfl, rfl, T5, E5, F5⟩ := q
      refine ⟨_, rfl, rfl, rfl, ?_⟩
      show z_ok sx d 231 35 [(1, .int c), (0, .ref a)] [.int (Int32.ofInt (1))] hh _
      have N5 := N4.keep T5 ha' F5 (zNin _ _ _ (by decide +kernel))
      refine zh_if zJ_231 (a := 49) (b := 1) (z := 0) rfl (fun hc8 => ?_) (fun hc8 => ?_)
      · exact zTl_231 X T5 E5 ((F0.tr X (F4.wide (by decide +kernel))).tr X (F5.wide (by decide +kernel))) N5 ha'
      · exact absurd (show z_cmp 1 (Int32.ofInt (1)) 0 = true from rfl) hc8
end
section
/-! no run makes more cells than it costs; printed with wip/gen/gen_len.py -/
noncomputable def zLno (o : zNop) : Prop := ∀ (sx : zX) (d a b : Nat) (c : Int) (k : Nat) (l : zL) (st : List Value) (h : zH) (k' : Nat) (l' : zL) (st' : List Value) (h' : zH) (x y : Nat), o sx d a b c k l st h = some (k', l', st', h', x, y) → h'.length ≤ h.length + x
theorem zln0 {k k' : Nat} {l l' : zL} {st st' : List Value} {h h' : zH} {x y : Nat} (e : zn k l st h = some (k', l', st', h', x, y)) : h'.length ≤ h.length + x := by
  obtain ⟨-, -, -, rfl, -⟩ := zn_inj e
  omega
theorem zln1 {k k' i : Nat} {l l' : zL} {st st' : List Value} {h h' : zH} {v : zE} {x y : Nat} (e : zn k l st (h.set i v) = some (k', l', st', h', x, y)) : h'.length ≤ h.length + x := by
  obtain ⟨-, -, -, rfl, -⟩ := zn_inj e
  rw [List.length_set]
  omega
theorem zln2 {k k' y0 : Nat} {l l' : zL} {st st' : List Value} {h h' : zH} {v : zE} {x y : Nat} (e : some (k, l, st, h ++ [v], 1, y0) = some (k', l', st', h', x, y)) : h'.length ≤ h.length + x := by
  simp only [Option.some.injEq, Prod.mk.injEq] at e
  obtain ⟨-, -, -, rfl, rfl, -⟩ := e
  rw [List.length_append, List.length_singleton]
  omega
theorem zl_no : zLno z_no := fun _ _ _ _ _ _ _ _ _ _ _ _ _ _ _ e => by cases e
theorem zl_aald : zLno zo_aald := by
  intro sx d a b c k l st h k' l' st' h' x y e
  unfold zo_aald at e
  repeat' split at e
  all_goals first
    | exact zln0 e
    | exact zln1 e
    | exact zln2 e
    | cases e
theorem zl_aast : zLno zo_aast := by
  intro sx d a b c k l st h k' l' st' h' x y e
  unfold zo_aast at e
  repeat' split at e
  all_goals first
    | exact zln0 e
    | exact zln1 e
    | exact zln2 e
    | cases e
theorem zl_acopy : zLno zo_acopy := by
  intro sx d a b c k l st h k' l' st' h' x y e
  unfold zo_acopy at e
  repeat' split at e
  all_goals first
    | exact zln0 e
    | exact zln1 e
    | exact zln2 e
    | cases e
theorem zl_alen : zLno zo_alen := by
  intro sx d a b c k l st h k' l' st' h' x y e
  unfold zo_alen at e
  repeat' split at e
  all_goals first
    | exact zln0 e
    | exact zln1 e
    | exact zln2 e
    | cases e
theorem zl_aload : zLno zo_aload := by
  intro sx d a b c k l st h k' l' st' h' x y e
  unfold zo_aload at e
  repeat' split at e
  all_goals first
    | exact zln0 e
    | exact zln1 e
    | exact zln2 e
    | cases e
theorem zl_anew : zLno zo_anew := by
  intro sx d a b c k l st h k' l' st' h' x y e
  unfold zo_anew at e
  repeat' split at e
  all_goals first
    | exact zln0 e
    | exact zln1 e
    | exact zln2 e
    | cases e
theorem zl_astore : zLno zo_astore := by
  intro sx d a b c k l st h k' l' st' h' x y e
  unfold zo_astore at e
  repeat' split at e
  all_goals first
    | exact zln0 e
    | exact zln1 e
    | exact zln2 e
    | cases e
theorem zl_bald : zLno zo_bald := by
  intro sx d a b c k l st h k' l' st' h' x y e
  unfold zo_bald at e
  repeat' split at e
  all_goals first
    | exact zln0 e
    | exact zln1 e
    | exact zln2 e
    | cases e
theorem zl_bast : zLno zo_bast := by
  intro sx d a b c k l st h k' l' st' h' x y e
  unfold zo_bast at e
  repeat' split at e
  all_goals first
    | exact zln0 e
    | exact zln1 e
    | exact zln2 e
    | cases e
theorem zl_cast : zLno zo_cast := by
  intro sx d a b c k l st h k' l' st' h' x y e
  unfold zo_cast at e
  repeat' split at e
  all_goals first
    | exact zln0 e
    | exact zln1 e
    | exact zln2 e
    | cases e
theorem zl_clone : zLno zo_clone := by
  intro sx d a b c k l st h k' l' st' h' x y e
  unfold zo_clone at e
  repeat' split at e
  all_goals first
    | exact zln0 e
    | exact zln1 e
    | exact zln2 e
    | cases e
theorem zl_const : zLno zo_const := by
  intro sx d a b c k l st h k' l' st' h' x y e
  unfold zo_const at e
  repeat' split at e
  all_goals first
    | exact zln0 e
    | exact zln1 e
    | exact zln2 e
    | cases e
theorem zl_dup : zLno zo_dup := by
  intro sx d a b c k l st h k' l' st' h' x y e
  unfold zo_dup at e
  repeat' split at e
  all_goals first
    | exact zln0 e
    | exact zln1 e
    | exact zln2 e
    | cases e
theorem zl_dup2 : zLno zo_dup2 := by
  intro sx d a b c k l st h k' l' st' h' x y e
  unfold zo_dup2 at e
  repeat' split at e
  all_goals first
    | exact zln0 e
    | exact zln1 e
    | exact zln2 e
    | cases e
theorem zl_get : zLno zo_get := by
  intro sx d a b c k l st h k' l' st' h' x y e
  unfold zo_get at e
  repeat' split at e
  all_goals first
    | exact zln0 e
    | exact zln1 e
    | exact zln2 e
    | cases e
theorem zl_goto : zLno zo_goto := by
  intro sx d a b c k l st h k' l' st' h' x y e
  unfold zo_goto at e
  repeat' split at e
  all_goals first
    | exact zln0 e
    | exact zln1 e
    | exact zln2 e
    | cases e
theorem zl_i2b : zLno zo_i2b := by
  intro sx d a b c k l st h k' l' st' h' x y e
  unfold zo_i2b at e
  repeat' split at e
  all_goals first
    | exact zln0 e
    | exact zln1 e
    | exact zln2 e
    | cases e
theorem zl_i2l : zLno zo_i2l := by
  intro sx d a b c k l st h k' l' st' h' x y e
  unfold zo_i2l at e
  repeat' split at e
  all_goals first
    | exact zln0 e
    | exact zln1 e
    | exact zln2 e
    | cases e
theorem zl_iadd : zLno zo_iadd := by
  intro sx d a b c k l st h k' l' st' h' x y e
  unfold zo_iadd at e
  repeat' split at e
  all_goals first
    | exact zln0 e
    | exact zln1 e
    | exact zln2 e
    | cases e
theorem zl_iald : zLno zo_iald := by
  intro sx d a b c k l st h k' l' st' h' x y e
  unfold zo_iald at e
  repeat' split at e
  all_goals first
    | exact zln0 e
    | exact zln1 e
    | exact zln2 e
    | cases e
theorem zl_lald : zLno zo_lald := by
  intro sx d a b c k l st h k' l' st' h' x y e
  unfold zo_lald at e
  repeat' split at e
  all_goals first
    | exact zln0 e
    | exact zln1 e
    | exact zln2 e
    | cases e
theorem zl_iand : zLno zo_iand := by
  intro sx d a b c k l st h k' l' st' h' x y e
  unfold zo_iand at e
  repeat' split at e
  all_goals first
    | exact zln0 e
    | exact zln1 e
    | exact zln2 e
    | cases e
theorem zl_iast : zLno zo_iast := by
  intro sx d a b c k l st h k' l' st' h' x y e
  unfold zo_iast at e
  repeat' split at e
  all_goals first
    | exact zln0 e
    | exact zln1 e
    | exact zln2 e
    | cases e
theorem zl_icmp : zLno zo_icmp := by
  intro sx d a b c k l st h k' l' st' h' x y e
  unfold zo_icmp at e
  repeat' split at e
  all_goals first
    | exact zln0 e
    | exact zln1 e
    | exact zln2 e
    | cases e
theorem zl_idiv : zLno zo_idiv := by
  intro sx d a b c k l st h k' l' st' h' x y e
  unfold zo_idiv at e
  repeat' split at e
  all_goals first
    | exact zln0 e
    | exact zln1 e
    | exact zln2 e
    | cases e
theorem zl_if : zLno zo_if := by
  intro sx d a b c k l st h k' l' st' h' x y e
  unfold zo_if at e
  repeat' split at e
  all_goals first
    | exact zln0 e
    | exact zln1 e
    | exact zln2 e
    | cases e
theorem zl_ifnn : zLno zo_ifnn := by
  intro sx d a b c k l st h k' l' st' h' x y e
  unfold zo_ifnn at e
  repeat' split at e
  all_goals first
    | exact zln0 e
    | exact zln1 e
    | exact zln2 e
    | cases e
theorem zl_iinc : zLno zo_iinc := by
  intro sx d a b c k l st h k' l' st' h' x y e
  unfold zo_iinc at e
  repeat' split at e
  all_goals first
    | exact zln0 e
    | exact zln1 e
    | exact zln2 e
    | cases e
theorem zl_iload : zLno zo_iload := by
  intro sx d a b c k l st h k' l' st' h' x y e
  unfold zo_iload at e
  repeat' split at e
  all_goals first
    | exact zln0 e
    | exact zln1 e
    | exact zln2 e
    | cases e
theorem zl_imul : zLno zo_imul := by
  intro sx d a b c k l st h k' l' st' h' x y e
  unfold zo_imul at e
  repeat' split at e
  all_goals first
    | exact zln0 e
    | exact zln1 e
    | exact zln2 e
    | cases e
theorem zl_ior : zLno zo_ior := by
  intro sx d a b c k l st h k' l' st' h' x y e
  unfold zo_ior at e
  repeat' split at e
  all_goals first
    | exact zln0 e
    | exact zln1 e
    | exact zln2 e
    | cases e
theorem zl_irem : zLno zo_irem := by
  intro sx d a b c k l st h k' l' st' h' x y e
  unfold zo_irem at e
  repeat' split at e
  all_goals first
    | exact zln0 e
    | exact zln1 e
    | exact zln2 e
    | cases e
theorem zl_ishl : zLno zo_ishl := by
  intro sx d a b c k l st h k' l' st' h' x y e
  unfold zo_ishl at e
  repeat' split at e
  all_goals first
    | exact zln0 e
    | exact zln1 e
    | exact zln2 e
    | cases e
theorem zl_ishr : zLno zo_ishr := by
  intro sx d a b c k l st h k' l' st' h' x y e
  unfold zo_ishr at e
  repeat' split at e
  all_goals first
    | exact zln0 e
    | exact zln1 e
    | exact zln2 e
    | cases e
theorem zl_istore : zLno zo_istore := by
  intro sx d a b c k l st h k' l' st' h' x y e
  unfold zo_istore at e
  repeat' split at e
  all_goals first
    | exact zln0 e
    | exact zln1 e
    | exact zln2 e
    | cases e
theorem zl_isub : zLno zo_isub := by
  intro sx d a b c k l st h k' l' st' h' x y e
  unfold zo_isub at e
  repeat' split at e
  all_goals first
    | exact zln0 e
    | exact zln1 e
    | exact zln2 e
    | cases e
theorem zl_iushr : zLno zo_iushr := by
  intro sx d a b c k l st h k' l' st' h' x y e
  unfold zo_iushr at e
  repeat' split at e
  all_goals first
    | exact zln0 e
    | exact zln1 e
    | exact zln2 e
    | cases e
theorem zl_ixor : zLno zo_ixor := by
  intro sx d a b c k l st h k' l' st' h' x y e
  unfold zo_ixor at e
  repeat' split at e
  all_goals first
    | exact zln0 e
    | exact zln1 e
    | exact zln2 e
    | cases e
theorem zl_l2i : zLno zo_l2i := by
  intro sx d a b c k l st h k' l' st' h' x y e
  unfold zo_l2i at e
  repeat' split at e
  all_goals first
    | exact zln0 e
    | exact zln1 e
    | exact zln2 e
    | cases e
theorem zl_ladd : zLno zo_ladd := by
  intro sx d a b c k l st h k' l' st' h' x y e
  unfold zo_ladd at e
  repeat' split at e
  all_goals first
    | exact zln0 e
    | exact zln1 e
    | exact zln2 e
    | cases e
theorem zl_last : zLno zo_last := by
  intro sx d a b c k l st h k' l' st' h' x y e
  unfold zo_last at e
  repeat' split at e
  all_goals first
    | exact zln0 e
    | exact zln1 e
    | exact zln2 e
    | cases e
theorem zl_lcmp : zLno zo_lcmp := by
  intro sx d a b c k l st h k' l' st' h' x y e
  unfold zo_lcmp at e
  repeat' split at e
  all_goals first
    | exact zln0 e
    | exact zln1 e
    | exact zln2 e
    | cases e
theorem zl_lconst : zLno zo_lconst := by
  intro sx d a b c k l st h k' l' st' h' x y e
  unfold zo_lconst at e
  repeat' split at e
  all_goals first
    | exact zln0 e
    | exact zln1 e
    | exact zln2 e
    | cases e
theorem zl_ldcs : zLno zo_ldcs := by
  intro sx d a b c k l st h k' l' st' h' x y e
  unfold zo_ldcs at e
  repeat' split at e
  all_goals first
    | exact zln0 e
    | exact zln1 e
    | exact zln2 e
    | cases e
theorem zl_ldiv : zLno zo_ldiv := by
  intro sx d a b c k l st h k' l' st' h' x y e
  unfold zo_ldiv at e
  repeat' split at e
  all_goals first
    | exact zln0 e
    | exact zln1 e
    | exact zln2 e
    | cases e
theorem zl_lload : zLno zo_lload := by
  intro sx d a b c k l st h k' l' st' h' x y e
  unfold zo_lload at e
  repeat' split at e
  all_goals first
    | exact zln0 e
    | exact zln1 e
    | exact zln2 e
    | cases e
theorem zl_lmul : zLno zo_lmul := by
  intro sx d a b c k l st h k' l' st' h' x y e
  unfold zo_lmul at e
  repeat' split at e
  all_goals first
    | exact zln0 e
    | exact zln1 e
    | exact zln2 e
    | cases e
theorem zl_lstore : zLno zo_lstore := by
  intro sx d a b c k l st h k' l' st' h' x y e
  unfold zo_lstore at e
  repeat' split at e
  all_goals first
    | exact zln0 e
    | exact zln1 e
    | exact zln2 e
    | cases e
theorem zl_lsw2 : zLno zo_lsw2 := by
  intro sx d a b c k l st h k' l' st' h' x y e
  unfold zo_lsw2 at e
  repeat' split at e
  all_goals first
    | exact zln0 e
    | exact zln1 e
    | exact zln2 e
    | cases e
theorem zl_max : zLno zo_max := by
  intro sx d a b c k l st h k' l' st' h' x y e
  unfold zo_max at e
  repeat' split at e
  all_goals first
    | exact zln0 e
    | exact zln1 e
    | exact zln2 e
    | cases e
theorem zl_min : zLno zo_min := by
  intro sx d a b c k l st h k' l' st' h' x y e
  unfold zo_min at e
  repeat' split at e
  all_goals first
    | exact zln0 e
    | exact zln1 e
    | exact zln2 e
    | cases e
theorem zl_new : zLno zo_new := by
  intro sx d a b c k l st h k' l' st' h' x y e
  unfold zo_new at e
  repeat' split at e
  all_goals first
    | exact zln0 e
    | exact zln1 e
    | exact zln2 e
    | cases e
theorem zl_newa : zLno zo_newa := by
  intro sx d a b c k l st h k' l' st' h' x y e
  unfold zo_newa at e
  repeat' split at e
  all_goals first
    | exact zln0 e
    | exact zln1 e
    | exact zln2 e
    | cases e
theorem zl_null : zLno zo_null := by
  intro sx d a b c k l st h k' l' st' h' x y e
  unfold zo_null at e
  repeat' split at e
  all_goals first
    | exact zln0 e
    | exact zln1 e
    | exact zln2 e
    | cases e
theorem zl_oinit : zLno zo_oinit := by
  intro sx d a b c k l st h k' l' st' h' x y e
  unfold zo_oinit at e
  repeat' split at e
  all_goals first
    | exact zln0 e
    | exact zln1 e
    | exact zln2 e
    | cases e
theorem zl_pop : zLno zo_pop := by
  intro sx d a b c k l st h k' l' st' h' x y e
  unfold zo_pop at e
  repeat' split at e
  all_goals first
    | exact zln0 e
    | exact zln1 e
    | exact zln2 e
    | cases e
theorem zl_put : zLno zo_put := by
  intro sx d a b c k l st h k' l' st' h' x y e
  unfold zo_put at e
  repeat' split at e
  all_goals first
    | exact zln0 e
    | exact zln1 e
    | exact zln2 e
    | cases e
theorem zl_sald : zLno zo_sald := by
  intro sx d a b c k l st h k' l' st' h' x y e
  unfold zo_sald at e
  repeat' split at e
  all_goals first
    | exact zln0 e
    | exact zln1 e
    | exact zln2 e
    | cases e
theorem zl_scharAt : zLno zo_scharAt := by
  intro sx d a b c k l st h k' l' st' h' x y e
  unfold zo_scharAt at e
  repeat' split at e
  all_goals first
    | exact zln0 e
    | exact zln1 e
    | exact zln2 e
    | cases e
theorem zl_slen : zLno zo_slen := by
  intro sx d a b c k l st h k' l' st' h' x y e
  unfold zo_slen at e
  repeat' split at e
  all_goals first
    | exact zln0 e
    | exact zln1 e
    | exact zln2 e
    | cases e
theorem zl_slength : zLno zo_slength := by
  intro sx d a b c k l st h k' l' st' h' x y e
  unfold zo_slength at e
  repeat' split at e
  all_goals first
    | exact zln0 e
    | exact zln1 e
    | exact zln2 e
    | cases e
theorem zl_tsw : zLno zo_tsw := by
  intro sx d a b c k l st h k' l' st' h' x y e
  unfold zo_tsw at e
  repeat' split at e
  all_goals first
    | exact zln0 e
    | exact zln1 e
    | exact zln2 e
    | cases e
theorem zl_all : ∀ o, zLno (z_ops.getD o z_no)
  | 0 => zl_const
  | 1 => zl_iload
  | 2 => zl_aload
  | 3 => zl_lload
  | 4 => zl_istore
  | 5 => zl_astore
  | 6 => zl_lstore
  | 7 => zl_iinc
  | 8 => zl_iadd
  | 9 => zl_isub
  | 10 => zl_imul
  | 11 => zl_idiv
  | 12 => zl_irem
  | 13 => zl_ishl
  | 14 => zl_ishr
  | 15 => zl_iushr
  | 16 => zl_iand
  | 17 => zl_ior
  | 18 => zl_ixor
  | 19 => zl_i2l
  | 20 => zl_l2i
  | 21 => zl_i2b
  | 22 => zl_ladd
  | 23 => zl_lmul
  | 24 => zl_ldiv
  | 25 => zl_lconst
  | 26 => zl_lcmp
  | 27 => zl_dup
  | 28 => zl_dup2
  | 29 => zl_pop
  | 30 => zl_goto
  | 31 => zl_if
  | 32 => zl_icmp
  | 33 => zl_ifnn
  | 34 => zl_lald
  | 35 => zl_tsw
  | 36 => zl_lsw2
  | 37 => zl_get
  | 38 => zl_put
  | 39 => zl_iald
  | 40 => zl_iast
  | 41 => zl_bald
  | 42 => zl_bast
  | 43 => zl_last
  | 44 => zl_aald
  | 45 => zl_aast
  | 46 => zl_alen
  | 47 => zl_newa
  | 48 => zl_anew
  | 49 => zl_new
  | 50 => zl_no
  | 51 => zl_no
  | 52 => zl_no
  | 53 => zl_no
  | 54 => zl_no
  | 55 => zl_no
  | 56 => zl_no
  | 57 => zl_oinit
  | 58 => zl_ldcs
  | 59 => zl_slength
  | 60 => zl_scharAt
  | 61 => zl_acopy
  | 62 => zl_no
  | 63 => zl_null
  | 64 => zl_no
  | 65 => zl_sald
  | 66 => zl_slen
  | 67 => zl_min
  | 68 => zl_max
  | 69 => zl_no
  | 70 => zl_clone
  | 71 => zl_cast
  | n + 72 => zl_no
theorem z_run_len (sx : zX) : ∀ (n d j k : Nat) (lo : zL) (st : List Value) (h : zH) (o : zO) (h' : zH) (x y : Nat), z_run sx n d j k lo st h = some (o, h', x, y) → h'.length ≤ h.length + x := by
  intro n
  induction n with
  | zero => intro d j k lo st h o h' x y hr; rw [z_run] at hr; cases hr
  | succ n ih =>
    intro d j k lo st h o h' x y hr
    rw [z_run] at hr
    cases hM : z_ms[j]? with
    | none => rw [hM] at hr; cases hr
    | some M =>
    cases hC : z_cs[j]? with
    | none => rw [hM, hC] at hr; cases hr
    | some cs =>
    cases hH : z_hs[j]? with
    | none => rw [hM, hC, hH] at hr; cases hr
    | some hs =>
    rw [hM, hC, hH] at hr
    dsimp only at hr
    cases hk : cs[k]? with
    | none => rw [hk] at hr; cases hr
    | some i =>
    rw [hk] at hr
    dsimp only at hr
    cases hf : z_fin M i d st with
    | some w =>
      rw [hf] at hr
      obtain ⟨w1, w2, w3⟩ := w
      simp only [Option.some.injEq, Prod.mk.injEq] at hr
      obtain ⟨-, rfl, -⟩ := hr
      omega
    | none =>
    rw [hf] at hr
    dsimp only at hr
    cases hc : z_cal i d st h with
    | some w =>
      obtain ⟨j', as, rest⟩ := w
      rw [hc] at hr
      dsimp only at hr
      cases hin : z_run sx n (d - 1) j' 0 (lv_args 0 as) [] h with
      | none => rw [hin] at hr; cases hr
      | some w =>
      obtain ⟨oi, h1, x1, y1⟩ := w
      rw [hin] at hr
      have k1 := ih _ _ _ _ _ _ _ _ _ _ hin
      cases oi with
      | inl v =>
        dsimp only at hr
        obtain ⟨a, b, e1, e2, e3⟩ := z_mapadd hr
        have k2 := ih _ _ _ _ _ _ _ _ _ _ e1
        omega
      | inr E =>
        dsimp only at hr
        by_cases hi : i.1 = 54
        case neg => rw [if_neg hi] at hr; cases hr
        rw [if_pos hi] at hr
        cases hfd : hs.find? (fun q => q.2.2.2.2.1 == E) with
        | some q =>
          rw [hfd] at hr
          dsimp only at hr
          obtain ⟨a, b, e1, e2, e3⟩ := z_mapadd hr
          have k2 := ih _ _ _ _ _ _ _ _ _ _ e1
          omega
        | none =>
          rw [hfd] at hr
          dsimp only at hr
          split at hr
          · simp only [Option.some.injEq, Prod.mk.injEq] at hr
            obtain ⟨-, rfl, rfl, -⟩ := hr
            exact k1
          · cases hr
    | none =>
    rw [hc] at hr
    dsimp only at hr
    cases ho : (z_ops.getD i.1 z_no) sx d i.2.1 i.2.2.1 i.2.2.2 k lo st h with
    | none => rw [ho] at hr; cases hr
    | some w =>
    obtain ⟨k', lo', st', h1, x1, y1⟩ := w
    rw [ho] at hr
    dsimp only at hr
    have k1 := zl_all i.1 _ _ _ _ _ _ _ _ _ _ _ _ _ _ _ ho
    obtain ⟨a, b, e1, e2, e3⟩ := z_mapadd hr
    have k2 := ih _ _ _ _ _ _ _ _ _ _ e1
    omega
theorem z_ok.len {sx : zX} {d j k : Nat} {lo : zL} {st : List Value} {h : zH} {Ψ : zO → zH → Nat → Nat → Prop} (H : z_ok sx d j k lo st h Ψ) : z_ok sx d j k lo st h (fun o h' x y => Ψ o h' x y ∧ h'.length ≤ h.length + x) := by
  obtain ⟨n, o, h', x, y, e, q⟩ := H
  exact ⟨n, o, h', x, y, e, q, z_run_len sx n d j k lo st h o h' x y e⟩
/-! pieces by the checker, to any end -/
section ZSG3
variable {tt : Nat → zTy} {Ex : List Nat → zH → Prop} {cts : List zCt} {cand : List (List Nat)} {own : Nat} {ct : zCt} {ty0 : List Nat} {h0 : zH} {ρ0 : List Value} {sx : zX} {d0 : Nat} {Φ : zO → zH → Nat → Nat → Prop}
theorem zxs_ok3 {stop hit : zSt → Bool} (hst : zStable tt Ex (zcM ct)) (hd : zcD ct ≤ d0) (hcts : ∀ c, c < own → ∀ c', cts[c]? = some c' → zVd tt Ex c') (hΦ : ∀ o h x y, zPo tt Ex ct ty0 h0 o h x y → Φ o h x y) (hcut : ∀ (s : zSt) (cf : List zCf) (h : zH) (X Y : Nat), zRl tt Ex ct ty0 h0 ρ0 s cf h X Y → hit s = true → zGo sx d0 Φ cf h X Y) : ∀ (n : Nat) (s : zSt) (cf : List zCf) (h : zH) (X Y : Nat), zRl tt Ex ct ty0 h0 ρ0 s cf h X Y → zxs tt cts cand own ct stop hit n s = true → zGo sx d0 Φ cf h X Y
  | 0, _, _, _, _, _, _, hq => by cases hq
  | n + 1, s, cf, h, X, Y, R, hq => by
    rw [zxs] at hq
    split at hq
    case h_1 => cases hq
    next l hl =>
    refine zstep_ok hst hd hcts R hl ⟨hΦ, fun s' hs' cf' h' X' Y' R' => ?_⟩
    have := List.all_eq_true.mp hq s' hs'
    split at this
    · exact hcut s' cf' h' X' Y' R' this
    · exact zxs_ok3 hst hd hcts hΦ hcut n s' cf' h' X' Y' R' this
end ZSG3
theorem zPo_no {ct : zCt} (h1 : zcR ct = [(0, 1, 0)]) (h2 : zcE ct = []) {ty0 : List Nat} {h0 : zH} (Φ : zO → zH → Nat → Nat → Prop) : ∀ o h x y, zPo z_tt zE1 ct ty0 h0 o h x y → Φ o h x y := by
  rintro o h x y ⟨ty', -, -, -, -, q⟩
  cases o with
  | inl v =>
    rw [h1] at q
    cases v with
    | none => exact q.1.elim
    | some v =>
      obtain ⟨u, -, u1, u2⟩ := q.1
      omega
  | inr E =>
    rw [h2] at q
    exact absurd q.1 List.not_mem_nil
theorem zseg3 {cts : List zCt} {cand : List (List Nat)} {own : Nat} {ct : zCt} {c0 : zCut} {gs : List zTg} {fuel : Nat} {ty0 : List Nat} {h0 : zH} {sx : zX} {d0 : Nat} {ty : List Nat} {lo : zL} {h : zH} {vl vm : List Value} {Φ : zO → zH → Nat → Nat → Prop} (hst : zStable z_tt zE1 (zcM ct)) (hd : zcD ct ≤ d0) (hcts : ∀ c, c < own → ∀ c', cts[c]? = some c' → zVd z_tt zE1 c') (hΦ : ∀ o h x y, zPo z_tt zE1 ct ty0 h0 o h x y → Φ o h x y) (hck : zxs z_tt cts cand own ct (zstop gs) (zht z_tt ct c0 gs) fuel (zc_st ct c0) = true) (a2 : zExt ty0 ty) (T : zTY z_tt ty h) (E : zE1 ty h) (F : zFm (zcM ct) ty0 h0 h) (H1 : zVl ty lo c0.2.1 vl) (H2 : zVm ty lo h c0.2.2.1 vm) (hcut : ∀ g ∈ gs, ∀ (ty' : List Nat) (lo' : zL) (h' : zH) (vl' vm' : List Value), zExt ty0 ty' → zTY z_tt ty' h' → zE1 ty' h' → zFm (zcM ct) ty0 h0 h' → zVl ty' lo' g.2.1 vl' → zVm ty' lo' h' g.2.2.1 vm' → (∀ q ∈ g.2.2.2, zcv2 lo' h' q.1 = zcv2 lo h q.2.1 + q.2.2) → zGo sx d0 Φ [(zcJ ct, g.1, lo', [])] h' 0 0) : zGo sx d0 Φ [(zcJ ct, c0.1, lo, [])] h 0 0 := by
  refine zxs_ok3 (ρ0 := vl ++ vm) hst hd hcts hΦ (fun s cf h' X Y R hh => ?_) fuel (zc_st ct c0) _ h 0 0 (zc_start a2 T E F H1 H2) hck
  obtain ⟨ty', ρ, a1, b2, b3, b4, b5, b6, b7, b10, b11, b12⟩ := R
  unfold zht at hh
  split at hh
  case h_2 => cases hh
  next f hf =>
  rw [hf] at b10
  match cf, b10 with
  | [(j, k, lo', st)], b10 =>
  obtain ⟨c1, c2, c3, c4, -⟩ := b10
  obtain ⟨g, hg, h9⟩ := List.any_eq_true.mp hh
  unfold zht1 at h9
  simp only [Bool.and_eq_true, decide_eq_true_eq] at h9
  obtain ⟨d1, d2, d3, d4, d5, d6, d7, d8⟩ := h9
  obtain ⟨vl', hvl⟩ := za_l_ok b6 c3 d6
  obtain ⟨vm', hvm⟩ := za_m_ok b3 b6 b7 c3 d7
  have hst9 : st = [] := by
    rw [List.isEmpty_iff.mp d3] at c4
    cases st with
    | nil => rfl
    | cons _ _ => exact c4.elim
  subst hst9
  dsimp only at c1 c2
  have e1 : X = 0 := by omega
  have e2 : Y = 0 := by omega
  subst e1
  subst e2
  have := hcut g hg ty' lo' h' vl' vm' b2 b3 b4 b5 hvl hvm (fun q hq => zdq_ok b6 c3 b7 a1 (zc_lo H1) (zc_mm H1 H2) (List.all_eq_true.mp d8 q hq))
  rw [← c1, ← c2, ← d1, d2]
  exact this
/-! the lengths of the two tapes -/
noncomputable def zTp (ty : List Nat) (h : zH) (ax : Nat) (n : Int) : Prop := ∃ (e1 e2 : zE) (t : Nat) (x : Int32), h[ax]? = some e1 ∧ z_rd e1 0 = some (.ref t) ∧ ty[t]? = some 2 ∧ h[t]? = some e2 ∧ z_rd e2 1 = some (.int x) ∧ x.toInt = n
noncomputable def zMp (h : zH) (am : Nat) (n : Int) : Prop := ∃ (e : zE) (x : Int32), h[am]? = some e ∧ z_rd e 9 = some (.int x) ∧ x.toInt = n
theorem zat_ex {ty ty' : List Nat} {h h' : zH} {a t : Nat} (T' : zTY z_tt ty' h') (X : zExt ty ty') (ha : ty[a]? = some t) : ∃ e, h'[a]? = some e := by
  have hl : a < h'.length := by rw [← T'.1]; exact (List.getElem?_eq_some_iff.mp (X a t ha)).1
  exact ⟨_, List.getElem?_eq_getElem hl⟩
theorem zTp.keep {ms : List zMod} {ty ty' : List Nat} {h h' : zH} {ax : Nat} {n : Int} (H : zTp ty h ax n) (ha : ty[ax]? = some 1) (T' : zTY z_tt ty' h') (X : zExt ty ty') (F : zFm ms ty h h') (h1 : ¬ zIn ms 1 0) (h2 : ¬ zIn ms 2 1) : zTp ty' h' ax n := by
  obtain ⟨e1, e2, t, x, a1, a2, a3, a4, a5, a6⟩ := H
  obtain ⟨f1, b1⟩ := zat_ex (h := h) T' X ha
  obtain ⟨f2, b2⟩ := zat_ex (h := h) T' X a3
  exact ⟨f1, f2, t, x, b1, (F.2 ax 1 e1 f1 ha a1 b1 0 h1).trans a2, X t 2 a3, b2, (F.2 t 2 e2 f2 a3 a4 b2 1 h2).trans a5, a6⟩
theorem zMp.keep {ms : List zMod} {ty ty' : List Nat} {h h' : zH} {am : Nat} {n : Int} (H : zMp h am n) (ha : ty[am]? = some 20) (T' : zTY z_tt ty' h') (X : zExt ty ty') (F : zFm ms ty h h') (h1 : ¬ zIn ms 20 9) : zMp h' am n := by
  obtain ⟨e1, x, a1, a2, a3⟩ := H
  obtain ⟨f1, b1⟩ := zat_ex (h := h) T' X ha
  exact ⟨f1, x, b1, (F.2 am 20 e1 f1 ha a1 b1 9 h1).trans a2, a3⟩
theorem zNi.mp {h : zH} {a : Nat} (H : zNi h a) : zMp h a 0 := by
  obtain ⟨fs, he, h9⟩ := H
  exact ⟨_, 0, he, h9, rfl⟩
/-- the tape, read -/
theorem zTp.at {ty : List Nat} {h : zH} {ax : Nat} {n : Int} (T : zTY z_tt ty h) (ha : ty[ax]? = some 1) (H : zTp ty h ax n) : ∃ (fs ts : List Value) (t : Nat) (x : Int32), h[ax]? = some (.inr (8, fs)) ∧ fs.length = 8 ∧ fs[0]? = some (.ref t) ∧ ty[t]? = some 2 ∧ h[t]? = some (.inr (6, ts)) ∧ ts.length = 4 ∧ ts[1]? = some (.int x) ∧ x.toInt = n := by
  obtain ⟨e1, e2, t, x, a1, a2, a3, a4, a5, a6⟩ := H
  obtain ⟨fs, b1, b2⟩ := zcell0 (c := 8) (n := 8) T ha rfl rfl rfl
  obtain ⟨ts, c1, c2⟩ := zcell0 (c := 6) (n := 4) T a3 rfl rfl rfl
  rw [b1] at a1
  cases a1
  rw [c1] at a4
  cases a4
  exact ⟨fs, ts, t, x, b1, b2, a2, a3, c1, c2, a5, a6⟩
end
