/-! the reference's reader: the grammar; printed with wip/gen/gen_rd3.py -/
theorem zJ_222 : zJ3 222 z_m222 z_c222 z_h222 := ⟨rfl, rfl, rfl⟩
set_option maxRecDepth 100000 in
theorem zTl_222 {sx : zX} {ty : List Nat} {h0 : zH} {a w b E : Nat} {P D S d : Nat} {g : Nat → Int32} {h : zH} {P1 Q1 S1 : Nat} {g1 : Nat → Int32} {v : Int32} (H : zPS ty h0 a w b E P1 Q1 D S1 g1 h) (hs : 0 ≤ v.toInt → S1 + P ≤ P1 + S ∧ zCd S g S1 g1 1) : z_ok sx d 222 59 [(1, .int v), (0, .ref a)] [] h (zRq (zGs ty h0 a w b E P D S g)) := by
  refine zh zJ_222 (i := (1, 1, 0, 0)) rfl rfl (k' := 60) (lo' := [(1, .int v), (0, .ref a)]) (st' := [.int v]) (h' := h) rfl ?_
  refine zh_if zJ_222 (a := 63) (b := 2) (z := 0) rfl (fun hc1 => ?_) (fun hc1 => ?_)
  · refine zh zJ_222 (i := (0, 0, 0, 0)) rfl rfl (k' := 64) (lo' := [(1, .int v), (0, .ref a)]) (st' := [.int (Int32.ofInt (0))]) (h' := h) rfl ?_
    refine zh_iret zJ_222 (a := 0) (b := 0) (z := 0) rfl (Or.inr ⟨rfl, Or.inl rfl⟩) ?_
    exact ⟨_, rfl, rfl, rfl, _, P1, Q1, D, S1, g1, rfl, H, Or.inl rfl⟩
  · have h0v : 0 ≤ v.toInt := (by have := mt zcmp_lt.mpr hc1; rw [show (0 : Int32).toInt = 0 from rfl] at this; omega)
    have h9 := hs h0v
    refine zh zJ_222 (i := (0, 0, 0, 1)) rfl rfl (k' := 62) (lo' := [(1, .int v), (0, .ref a)]) (st' := [.int (Int32.ofInt (1))]) (h' := h) rfl ?_
    refine zh zJ_222 (i := (30, 64, 0, 0)) rfl rfl (k' := 64) (lo' := [(1, .int v), (0, .ref a)]) (st' := [.int (Int32.ofInt (1))]) (h' := h) rfl ?_
    refine zh_iret zJ_222 (a := 0) (b := 0) (z := 0) rfl (Or.inr ⟨rfl, Or.inr rfl⟩) ?_
    exact ⟨_, rfl, rfl, rfl, _, P1, Q1, D, S1, g1, rfl, H, Or.inr ⟨rfl, rfl, h9.1, h9.2⟩⟩
set_option maxRecDepth 100000 in
theorem zTm_222 {sx : zX} {ty : List Nat} {h0 : zH} {a w b E : Nat} {P D S d : Nat} {g : Nat → Int32} {h : zH} {P1 Q1 : Nat} {v : Int32} (hd : 9 ≤ d) (H : zPS ty h0 a w b E P1 Q1 D S g h) (hv : v.toInt ≤ 8) (hP : P + 1 ≤ P1) (hS : S + 1 ≤ P) : z_ok sx d 222 54 [(0, .ref a)] [.int v] h (zRq (zGs ty h0 a w b E P D S g)) := by
  obtain ⟨bE, bP, bQ, bD, bS⟩ := H.bd
  refine zh zJ_222 (i := (4, 1, 0, 0)) rfl rfl (k' := 55) (lo' := [(1, .int v), (0, .ref a)]) (st' := []) (h' := h) rfl ?_
  refine zh zJ_222 (i := (2, 0, 0, 0)) rfl rfl (k' := 56) (lo' := [(1, .int v), (0, .ref a)]) (st' := [.ref a]) (h' := h) rfl ?_
  refine zh zJ_222 (i := (1, 1, 0, 0)) rfl rfl (k' := 57) (lo' := [(1, .int v), (0, .ref a)]) (st' := [.int v, .ref a]) (h' := h) rfl ?_
  refine zh zJ_222 (i := (0, 0, 0, 0)) rfl rfl (k' := 58) (lo' := [(1, .int v), (0, .ref a)]) (st' := [.int (Int32.ofInt (0)), .int v, .ref a]) (h' := h) rfl ?_
  refine zcl (xs := [.int (Int32.ofInt (0)), .int v]) (rest := []) H zJ_222 rfl (k' := 59) rfl (by omega) rfl rfl (Nat.le_of_ble_eq_true rfl) (M' := z_m221) rfl (Nat.le_of_ble_eq_true rfl) (zS_221 _ _ (by omega) H) (fun v h2 q => ?_)
  obtain ⟨rfl, H2⟩ := q
  show z_ok sx d 222 59 [(1, .int v), (0, .ref a)] [] h2 _
  exact zTl_222 H2 (fun h9 => ⟨by omega, zCd.push (by omega) hv⟩)
set_option maxRecDepth 100000 in
theorem zS_222 {sx : zX} {ty : List Nat} {h0 : zH} {a w b E : Nat} {P Q D S d : Nat} {g : Nat → Int32} {h : zH} (hd : 10 ≤ d) (hS : S + 1 ≤ P) (H : zPS ty h0 a w b E P Q D S g h) : z_ok sx d 222 0 (lv_args 0 [.ref a]) [] h (zRq (zGs ty h0 a w b E P D S g)) := by
  show z_ok sx d 222 0 [(0, .ref a)] [] h _
  refine zh zJ_222 (i := (2, 0, 0, 0)) rfl rfl (k' := 1) (lo' := [(0, .ref a)]) (st' := [.ref a]) (h' := h) rfl ?_
  refine zcl (xs := []) (rest := []) H zJ_222 rfl (k' := 2) rfl (by omega) rfl rfl (Nat.le_of_ble_eq_true rfl) (M' := z_m203) rfl (Nat.le_of_ble_eq_true rfl) (zS_203 (by omega) H) (fun v h3 q => ?_)
  obtain ⟨rfl, P1, Q1, h1, h2, H1⟩ := q
  show z_ok sx d 222 2 [(0, .ref a)] [] h3 _
  obtain ⟨bE, bP, bQ, bD, bS⟩ := H1.bd
  refine zh zJ_222 (i := (2, 0, 0, 0)) rfl rfl (k' := 3) (lo' := [(0, .ref a)]) (st' := [.ref a]) (h' := h3) rfl ?_
  refine zg10 H1 zJ_222 rfl (k' := 4) rfl (fun x4 ex4 => ?_)
  refine zh zJ_222 (i := (2, 0, 0, 0)) rfl rfl (k' := 5) (lo' := [(0, .ref a)]) (st' := [.ref a, .int x4]) (h' := h3) rfl ?_
  refine zg12 H1 zJ_222 rfl (k' := 6) rfl (fun x5 ex5 => ?_)
  refine zh_icmp zJ_222 (a := 17) (b := 1) (z := 0) rfl (fun hc6 => ?_) (fun hc6 => ?_)
  · have hne : Q1 < P1 := (by have := zcmp_ne.mp hc6; omega)
    refine zh zJ_222 (i := (2, 0, 0, 0)) rfl rfl (k' := 18) (lo' := [(0, .ref a)]) (st' := [.ref a]) (h' := h3) rfl ?_
    refine zldc zJ_222 rfl (k' := 19) rfl (by decide +kernel) ?_
    refine zcl (xs := [.ref (zB + 50)]) (rest := []) H1 zJ_222 rfl (k' := 20) rfl (by omega) rfl rfl (Nat.le_of_ble_eq_true rfl) (M' := z_m204) rfl (Nat.le_of_ble_eq_true rfl) (zS_204 (t := 50) (by omega) rfl (by decide) (by decide) H1) (fun v h9 q => ?_)
    obtain ⟨rfl, c, rfl, hc⟩ := q
    show z_ok sx d 222 20 [(0, .ref a)] [.int c] h9 _
    refine zh_if zJ_222 (a := 23) (b := 0) (z := 0) rfl (fun hc10 => ?_) (fun hc10 => ?_)
    · refine zh zJ_222 (i := (2, 0, 0, 0)) rfl rfl (k' := 24) (lo' := [(0, .ref a)]) (st' := [.ref a]) (h' := h9) rfl ?_
      refine zldc zJ_222 rfl (k' := 25) rfl (by decide +kernel) ?_
      refine zcl (xs := [.ref (zB + 57)]) (rest := []) H1 zJ_222 rfl (k' := 26) rfl (by omega) rfl rfl (Nat.le_of_ble_eq_true rfl) (M' := z_m204) rfl (Nat.le_of_ble_eq_true rfl) (zS_204 (t := 57) (by omega) rfl (by decide) (by decide) H1) (fun v h11 q => ?_)
      obtain ⟨rfl, c, rfl, hc⟩ := q
      show z_ok sx d 222 26 [(0, .ref a)] [.int c] h11 _
      refine zh_if zJ_222 (a := 29) (b := 0) (z := 0) rfl (fun hc12 => ?_) (fun hc12 => ?_)
      · refine zh zJ_222 (i := (2, 0, 0, 0)) rfl rfl (k' := 30) (lo' := [(0, .ref a)]) (st' := [.ref a]) (h' := h11) rfl ?_
        refine zldc zJ_222 rfl (k' := 31) rfl (by decide +kernel) ?_
        refine zcl (xs := [.ref (zB + 58)]) (rest := []) H1 zJ_222 rfl (k' := 32) rfl (by omega) rfl rfl (Nat.le_of_ble_eq_true rfl) (M' := z_m204) rfl (Nat.le_of_ble_eq_true rfl) (zS_204 (t := 58) (by omega) rfl (by decide) (by decide) H1) (fun v h13 q => ?_)
        obtain ⟨rfl, c, rfl, hc⟩ := q
        show z_ok sx d 222 32 [(0, .ref a)] [.int c] h13 _
        refine zh_if zJ_222 (a := 35) (b := 0) (z := 0) rfl (fun hc14 => ?_) (fun hc14 => ?_)
        · refine zh zJ_222 (i := (2, 0, 0, 0)) rfl rfl (k' := 36) (lo' := [(0, .ref a)]) (st' := [.ref a]) (h' := h13) rfl ?_
          refine zldc zJ_222 rfl (k' := 37) rfl (by decide +kernel) ?_
          refine zcl (xs := [.ref (zB + 59)]) (rest := []) H1 zJ_222 rfl (k' := 38) rfl (by omega) rfl rfl (Nat.le_of_ble_eq_true rfl) (M' := z_m204) rfl (Nat.le_of_ble_eq_true rfl) (zS_204 (t := 59) (by omega) rfl (by decide) (by decide) H1) (fun v h15 q => ?_)
          obtain ⟨rfl, c, rfl, hc⟩ := q
          show z_ok sx d 222 38 [(0, .ref a)] [.int c] h15 _
          refine zh_if zJ_222 (a := 41) (b := 0) (z := 0) rfl (fun hc16 => ?_) (fun hc16 => ?_)
          · refine zh zJ_222 (i := (2, 0, 0, 0)) rfl rfl (k' := 42) (lo' := [(0, .ref a)]) (st' := [.ref a]) (h' := h15) rfl ?_
            refine zldc zJ_222 rfl (k' := 43) rfl (by decide +kernel) ?_
            refine zcl (xs := [.ref (zB + 60)]) (rest := []) H1 zJ_222 rfl (k' := 44) rfl (by omega) rfl rfl (Nat.le_of_ble_eq_true rfl) (M' := z_m204) rfl (Nat.le_of_ble_eq_true rfl) (zS_204 (t := 60) (by omega) rfl (by decide) (by decide) H1) (fun v h17 q => ?_)
            obtain ⟨rfl, c, rfl, hc⟩ := q
            show z_ok sx d 222 44 [(0, .ref a)] [.int c] h17 _
            refine zh_if zJ_222 (a := 47) (b := 0) (z := 0) rfl (fun hc18 => ?_) (fun hc18 => ?_)
            · refine zh zJ_222 (i := (2, 0, 0, 0)) rfl rfl (k' := 48) (lo' := [(0, .ref a)]) (st' := [.ref a]) (h' := h17) rfl ?_
              refine zldc zJ_222 rfl (k' := 49) rfl (by decide +kernel) ?_
              refine zcl (xs := [.ref (zB + 49)]) (rest := []) H1 zJ_222 rfl (k' := 50) rfl (by omega) rfl rfl (Nat.le_of_ble_eq_true rfl) (M' := z_m204) rfl (Nat.le_of_ble_eq_true rfl) (zS_204 (t := 49) (by omega) rfl (by decide) (by decide) H1) (fun v h19 q => ?_)
              obtain ⟨rfl, c, rfl, hc⟩ := q
              show z_ok sx d 222 50 [(0, .ref a)] [.int c] h19 _
              refine zh_if zJ_222 (a := 53) (b := 0) (z := 0) rfl (fun hc20 => ?_) (fun hc20 => ?_)
              · refine zh zJ_222 (i := (0, 0, 0, -1)) rfl rfl (k' := 54) (lo' := [(0, .ref a)]) (st' := [.int (Int32.ofInt (-1))]) (h' := h19) rfl ?_
                exact zTm_222 (by omega) H1 (by decide) (by omega) (by omega)
              · refine zh zJ_222 (i := (0, 0, 0, 5)) rfl rfl (k' := 52) (lo' := [(0, .ref a)]) (st' := [.int (Int32.ofInt (5))]) (h' := h19) rfl ?_
                refine zh zJ_222 (i := (30, 54, 0, 0)) rfl rfl (k' := 54) (lo' := [(0, .ref a)]) (st' := [.int (Int32.ofInt (5))]) (h' := h19) rfl ?_
                exact zTm_222 (by omega) H1 (by decide) (by omega) (by omega)
            · refine zh zJ_222 (i := (0, 0, 0, 4)) rfl rfl (k' := 46) (lo' := [(0, .ref a)]) (st' := [.int (Int32.ofInt (4))]) (h' := h17) rfl ?_
              refine zh zJ_222 (i := (30, 54, 0, 0)) rfl rfl (k' := 54) (lo' := [(0, .ref a)]) (st' := [.int (Int32.ofInt (4))]) (h' := h17) rfl ?_
              exact zTm_222 (by omega) H1 (by decide) (by omega) (by omega)
          · refine zh zJ_222 (i := (0, 0, 0, 3)) rfl rfl (k' := 40) (lo' := [(0, .ref a)]) (st' := [.int (Int32.ofInt (3))]) (h' := h15) rfl ?_
            refine zh zJ_222 (i := (30, 54, 0, 0)) rfl rfl (k' := 54) (lo' := [(0, .ref a)]) (st' := [.int (Int32.ofInt (3))]) (h' := h15) rfl ?_
            exact zTm_222 (by omega) H1 (by decide) (by omega) (by omega)
        · refine zh zJ_222 (i := (0, 0, 0, 2)) rfl rfl (k' := 34) (lo' := [(0, .ref a)]) (st' := [.int (Int32.ofInt (2))]) (h' := h13) rfl ?_
          refine zh zJ_222 (i := (30, 54, 0, 0)) rfl rfl (k' := 54) (lo' := [(0, .ref a)]) (st' := [.int (Int32.ofInt (2))]) (h' := h13) rfl ?_
          exact zTm_222 (by omega) H1 (by decide) (by omega) (by omega)
      · refine zh zJ_222 (i := (0, 0, 0, 1)) rfl rfl (k' := 28) (lo' := [(0, .ref a)]) (st' := [.int (Int32.ofInt (1))]) (h' := h11) rfl ?_
        refine zh zJ_222 (i := (30, 54, 0, 0)) rfl rfl (k' := 54) (lo' := [(0, .ref a)]) (st' := [.int (Int32.ofInt (1))]) (h' := h11) rfl ?_
        exact zTm_222 (by omega) H1 (by decide) (by omega) (by omega)
    · refine zh zJ_222 (i := (0, 0, 0, 0)) rfl rfl (k' := 22) (lo' := [(0, .ref a)]) (st' := [.int (Int32.ofInt (0))]) (h' := h9) rfl ?_
      refine zh zJ_222 (i := (30, 54, 0, 0)) rfl rfl (k' := 54) (lo' := [(0, .ref a)]) (st' := [.int (Int32.ofInt (0))]) (h' := h9) rfl ?_
      exact zTm_222 (by omega) H1 (by decide) (by omega) (by omega)
  · refine zh zJ_222 (i := (2, 0, 0, 0)) rfl rfl (k' := 8) (lo' := [(0, .ref a)]) (st' := [.ref a]) (h' := h3) rfl ?_
    refine zh zJ_222 (i := (0, 0, 0, 0)) rfl rfl (k' := 9) (lo' := [(0, .ref a)]) (st' := [.int (Int32.ofInt (0)), .ref a]) (h' := h3) rfl ?_
    refine zh zJ_222 (i := (0, 0, 0, 999)) rfl rfl (k' := 10) (lo' := [(0, .ref a)]) (st' := [.int (Int32.ofInt (999)), .int (Int32.ofInt (0)), .ref a]) (h' := h3) rfl ?_
    refine zcl (xs := [.int (Int32.ofInt (999)), .int (Int32.ofInt (0))]) (rest := []) H1 zJ_222 rfl (k' := 11) rfl (by omega) rfl rfl (Nat.le_of_ble_eq_true rfl) (M' := z_m207) rfl (Nat.le_of_ble_eq_true rfl) (zS_207 (by omega) _ _ H1) (fun v h7 q => ?_)
    obtain ⟨c, P2, Q2, rfl, H2, h3, h4⟩ := q
    show z_ok sx d 222 11 [(0, .ref a)] [.int c] h7 _
    have b2 := H2.bd
    refine zh zJ_222 (i := (4, 1, 0, 0)) rfl rfl (k' := 12) (lo' := [(1, .int c), (0, .ref a)]) (st' := []) (h' := h7) rfl ?_
    refine zh zJ_222 (i := (2, 0, 0, 0)) rfl rfl (k' := 13) (lo' := [(1, .int c), (0, .ref a)]) (st' := [.ref a]) (h' := h7) rfl ?_
    refine zh zJ_222 (i := (0, 0, 0, 8)) rfl rfl (k' := 14) (lo' := [(1, .int c), (0, .ref a)]) (st' := [.int (Int32.ofInt (8)), .ref a]) (h' := h7) rfl ?_
    refine zh zJ_222 (i := (1, 1, 0, 0)) rfl rfl (k' := 15) (lo' := [(1, .int c), (0, .ref a)]) (st' := [.int c, .int (Int32.ofInt (8)), .ref a]) (h' := h7) rfl ?_
    refine zcl (xs := [.int c, .int (Int32.ofInt (8))]) (rest := []) H2 zJ_222 rfl (k' := 16) rfl (by omega) rfl rfl (Nat.le_of_ble_eq_true rfl) (M' := z_m221) rfl (Nat.le_of_ble_eq_true rfl) (zS_221 _ _ (by omega) H2) (fun v h8 q => ?_)
    obtain ⟨rfl, H3⟩ := q
    show z_ok sx d 222 16 [(1, .int c), (0, .ref a)] [] h8 _
    refine zh zJ_222 (i := (30, 59, 0, 0)) rfl rfl (k' := 59) (lo' := [(1, .int c), (0, .ref a)]) (st' := []) (h' := h8) rfl ?_
    exact zTl_222 H3 (fun h9 => ⟨by omega, zCd.push (by omega) (by decide)⟩)
theorem zJ_223 : zJ3 223 z_m223 z_c223 z_h223 := ⟨rfl, rfl, rfl⟩
set_option maxRecDepth 100000 in
theorem zLp_223 {sx : zX} {ty : List Nat} {h0 : zH} {a w b E : Nat} {P D S d : Nat} {g : Nat → Int32} (hd : 11 ≤ d) (hS : S + 1 ≤ P) : ∀ (n P1 Q1 S1 : Nat) (g1 : Nat → Int32) (h : zH), 400 - P1 < n → zPS ty h0 a w b E P1 Q1 D S1 g1 h → S1 + P ≤ P1 + S → zCd S g S1 g1 1 → z_ok sx d 223 5 [(0, .ref a)] [] h (zRq (zGs ty h0 a w b E P D S g))
  | 0, _, _, _, _, _, hn, _, _, _ => absurd hn (Nat.not_lt_zero _)
  | n + 1, P1, Q1, S1, g1, h, hn, H, hP1, hcd => by
    obtain ⟨bE, bP, bQ, bD, bS⟩ := H.bd
    refine zh zJ_223 (i := (2, 0, 0, 0)) rfl rfl (k' := 6) (lo' := [(0, .ref a)]) (st' := [.ref a]) (h' := h) rfl ?_
    refine zh zJ_223 (i := (0, 0, 0, 43)) rfl rfl (k' := 7) (lo' := [(0, .ref a)]) (st' := [.int (Int32.ofInt (43)), .ref a]) (h' := h) rfl ?_
    refine zcl (xs := [.int (Int32.ofInt (43))]) (rest := []) H zJ_223 rfl (k' := 8) rfl (by omega) rfl rfl (Nat.le_of_ble_eq_true rfl) (M' := z_m206) rfl (Nat.le_of_ble_eq_true rfl) (zS_206 (by omega) _ H) (fun v h21 q => ?_)
    obtain ⟨c, P2, Q2, rfl, H2, l1, l2⟩ := q
    show z_ok sx d 223 8 [(0, .ref a)] [.int c] h21 _
    have b2 := H2.bd
    refine zh_if zJ_223 (a := 19) (b := 0) (z := 0) rfl (fun hc22 => ?_) (fun hc22 => ?_)
    · refine zh zJ_223 (i := (0, 0, 0, 1)) rfl rfl (k' := 20) (lo' := [(0, .ref a)]) (st' := [.int (Int32.ofInt (1))]) (h' := h21) rfl ?_
      refine zh_iret zJ_223 (a := 0) (b := 0) (z := 0) rfl (Or.inr ⟨rfl, Or.inr rfl⟩) ?_
      exact ⟨_, rfl, rfl, rfl, _, P2, Q2, D, S1, g1, rfl, H2, Or.inr ⟨rfl, rfl, by omega, hcd⟩⟩
    · have l3 := (l2.resolve_left (fun e => hc22 (by rw [e]; rfl))).2
      refine zh zJ_223 (i := (2, 0, 0, 0)) rfl rfl (k' := 10) (lo' := [(0, .ref a)]) (st' := [.ref a]) (h' := h21) rfl ?_
      refine zcl (xs := []) (rest := []) H2 zJ_223 rfl (k' := 11) rfl (by omega) rfl rfl (Nat.le_of_ble_eq_true rfl) (M' := z_m222) rfl (Nat.le_of_ble_eq_true rfl) (zS_222 (by omega) (by omega) H2) (fun v h23 q => ?_)
      obtain ⟨c3, P3, Q3, D3, S3, g3, rfl, H3, h3⟩ := q
      show z_ok sx d 223 11 [(0, .ref a)] [.int c3] h23 _
      refine zh_if zJ_223 (a := 14) (b := 1) (z := 0) rfl (fun hc24 => ?_) (fun hc24 => ?_)
      · obtain ⟨-, rfl, h5, h6⟩ := (h3.resolve_left (fun e => zcmp_ne.mp hc24 (by rw [e])))
        have h7 := h6.1
        have b3 := H3.bd
        refine zh zJ_223 (i := (2, 0, 0, 0)) rfl rfl (k' := 15) (lo' := [(0, .ref a)]) (st' := [.ref a]) (h' := h23) rfl ?_
        refine zh zJ_223 (i := (0, 0, 0, 9)) rfl rfl (k' := 16) (lo' := [(0, .ref a)]) (st' := [.int (Int32.ofInt (9)), .ref a]) (h' := h23) rfl ?_
        refine zh zJ_223 (i := (0, 0, 0, 0)) rfl rfl (k' := 17) (lo' := [(0, .ref a)]) (st' := [.int (Int32.ofInt (0)), .int (Int32.ofInt (9)), .ref a]) (h' := h23) rfl ?_
        refine zcl (xs := [.int (Int32.ofInt (0)), .int (Int32.ofInt (9))]) (rest := []) H3 zJ_223 rfl (k' := 18) rfl (by omega) rfl rfl (Nat.le_of_ble_eq_true rfl) (M' := z_m221) rfl (Nat.le_of_ble_eq_true rfl) (zS_221 _ _ (by omega) H3) (fun v h25 q => ?_)
        obtain ⟨rfl, H4⟩ := q
        show z_ok sx d 223 18 [(0, .ref a)] [] h25 _
        refine zh zJ_223 (i := (30, 5, 0, 0)) rfl rfl (k' := 5) (lo' := [(0, .ref a)]) (st' := []) (h' := h25) rfl ?_
        exact zLp_223 hd hS n P3 Q3 (S3 + 1) _ _ (by omega) H4 (by omega) ((hcd.two h6).bin (by omega) (by decide) (by decide))
      · refine zh zJ_223 (i := (0, 0, 0, 0)) rfl rfl (k' := 13) (lo' := [(0, .ref a)]) (st' := [.int (Int32.ofInt (0))]) (h' := h23) rfl ?_
        refine zh_iret zJ_223 (a := 0) (b := 0) (z := 0) rfl (Or.inr ⟨rfl, Or.inl rfl⟩) ?_
        exact ⟨_, rfl, rfl, rfl, _, P3, Q3, D3, S3, g3, rfl, H3, Or.inl rfl⟩
set_option maxRecDepth 100000 in
theorem zS_223 {sx : zX} {ty : List Nat} {h0 : zH} {a w b E : Nat} {P Q D S d : Nat} {g : Nat → Int32} {h : zH} (hd : 11 ≤ d) (hS : S + 1 ≤ P) (H : zPS ty h0 a w b E P Q D S g h) : z_ok sx d 223 0 (lv_args 0 [.ref a]) [] h (zRq (zGs ty h0 a w b E P D S g)) := by
  show z_ok sx d 223 0 [(0, .ref a)] [] h _
  refine zh zJ_223 (i := (2, 0, 0, 0)) rfl rfl (k' := 1) (lo' := [(0, .ref a)]) (st' := [.ref a]) (h' := h) rfl ?_
  refine zcl (xs := []) (rest := []) H zJ_223 rfl (k' := 2) rfl (by omega) rfl rfl (Nat.le_of_ble_eq_true rfl) (M' := z_m222) rfl (Nat.le_of_ble_eq_true rfl) (zS_222 (by omega) (by omega) H) (fun v h26 q => ?_)
  obtain ⟨c3, P3, Q3, D3, S3, g3, rfl, H3, h3⟩ := q
  show z_ok sx d 223 2 [(0, .ref a)] [.int c3] h26 _
  refine zh_if zJ_223 (a := 5) (b := 1) (z := 0) rfl (fun hc27 => ?_) (fun hc27 => ?_)
  · obtain ⟨-, rfl, h5, h6⟩ := (h3.resolve_left (fun e => zcmp_ne.mp hc27 (by rw [e])))
    exact zLp_223 hd hS 401 P3 Q3 S3 _ _ (by omega) H3 h5 h6
  · refine zh zJ_223 (i := (0, 0, 0, 0)) rfl rfl (k' := 4) (lo' := [(0, .ref a)]) (st' := [.int (Int32.ofInt (0))]) (h' := h26) rfl ?_
    refine zh_iret zJ_223 (a := 0) (b := 0) (z := 0) rfl (Or.inr ⟨rfl, Or.inl rfl⟩) ?_
    exact ⟨_, rfl, rfl, rfl, _, P3, Q3, D3, S3, g3, rfl, H3, Or.inl rfl⟩
theorem zJ_224 : zJ3 224 z_m224 z_c224 z_h224 := ⟨rfl, rfl, rfl⟩
set_option maxRecDepth 100000 in
theorem zTl_224 {sx : zX} {ty : List Nat} {h0 : zH} {a w b E : Nat} {P D S d : Nat} {g : Nat → Int32} {h : zH} {P1 Q1 : Nat} {v : Int32} (hd : 9 ≤ d) (hS : S + 1 ≤ P) (hPQ : P ≤ Q1) (H : zPS ty h0 a w b E P1 Q1 D S g h) (hv : v.toInt < 0 ∨ (Q1 + 1 ≤ P1 ∧ v.toInt ≤ 8)) : z_ok sx d 224 15 [(0, .ref a)] [.int v] h (zRq (fun r h' => ∃ (c : Int32) (P' Q' S' : Nat) (g' : Nat → Int32), r = some (.int c) ∧ zPS ty h0 a w b E P' Q' D S' g' h' ∧ ((c = 0 ∧ P ≤ P' ∧ S' = S ∧ g' = g) ∨ (c = 1 ∧ S' + P ≤ P' + S ∧ zCd S g S' g' 1)))) := by
  obtain ⟨bE, bP, bQ, bD, bS⟩ := H.bd
  refine zh zJ_224 (i := (4, 1, 0, 0)) rfl rfl (k' := 16) (lo' := [(1, .int v), (0, .ref a)]) (st' := []) (h' := h) rfl ?_
  refine zh zJ_224 (i := (1, 1, 0, 0)) rfl rfl (k' := 17) (lo' := [(1, .int v), (0, .ref a)]) (st' := [.int v]) (h' := h) rfl ?_
  refine zh_if zJ_224 (a := 23) (b := 2) (z := 0) rfl (fun hc28 => ?_) (fun hc28 => ?_)
  · refine zh zJ_224 (i := (2, 0, 0, 0)) rfl rfl (k' := 24) (lo' := [(1, .int v), (0, .ref a)]) (st' := [.ref a]) (h' := h) rfl ?_
    refine zh zJ_224 (i := (2, 0, 0, 0)) rfl rfl (k' := 25) (lo' := [(1, .int v), (0, .ref a)]) (st' := [.ref a, .ref a]) (h' := h) rfl ?_
    refine zg12 H zJ_224 rfl (k' := 26) rfl (fun x29 ex29 => ?_)
    refine zp10 H zJ_224 rfl (k' := 27) rfl (Q1) ex29 bQ (fun h30 Hh30 => ?_)
    refine zh zJ_224 (i := (1, 1, 0, 0)) rfl rfl (k' := 28) (lo' := [(1, .int v), (0, .ref a)]) (st' := [.int v]) (h' := h30) rfl ?_
    refine zh_if zJ_224 (a := 31) (b := 2) (z := 0) rfl (fun hc31 => ?_) (fun hc31 => ?_)
    · refine zh zJ_224 (i := (0, 0, 0, 0)) rfl rfl (k' := 32) (lo' := [(1, .int v), (0, .ref a)]) (st' := [.int (Int32.ofInt (0))]) (h' := h30) rfl ?_
      refine zh_iret zJ_224 (a := 0) (b := 0) (z := 0) rfl (Or.inr ⟨rfl, Or.inl rfl⟩) ?_
      exact ⟨_, rfl, rfl, rfl, _, Q1, Q1, S, g, rfl, Hh30, Or.inl ⟨rfl, hPQ, rfl, rfl⟩⟩
    · exact absurd hc28 hc31
  · have h0v : 0 ≤ v.toInt := (by have := mt zcmp_lt.mpr hc28; rw [show (0 : Int32).toInt = 0 from rfl] at this; omega)
    have hlt : Q1 + 1 ≤ P1 := (hv.resolve_left (by omega)).1
    have hv8 : v.toInt ≤ 8 := (hv.resolve_left (by omega)).2
    refine zh zJ_224 (i := (2, 0, 0, 0)) rfl rfl (k' := 19) (lo' := [(1, .int v), (0, .ref a)]) (st' := [.ref a]) (h' := h) rfl ?_
    refine zh zJ_224 (i := (1, 1, 0, 0)) rfl rfl (k' := 20) (lo' := [(1, .int v), (0, .ref a)]) (st' := [.int v, .ref a]) (h' := h) rfl ?_
    refine zh zJ_224 (i := (0, 0, 0, 0)) rfl rfl (k' := 21) (lo' := [(1, .int v), (0, .ref a)]) (st' := [.int (Int32.ofInt (0)), .int v, .ref a]) (h' := h) rfl ?_
    refine zcl (xs := [.int (Int32.ofInt (0)), .int v]) (rest := []) H zJ_224 rfl (k' := 22) rfl (by omega) rfl rfl (Nat.le_of_ble_eq_true rfl) (M' := z_m221) rfl (Nat.le_of_ble_eq_true rfl) (zS_221 _ _ (by omega) H) (fun v h32 q => ?_)
    obtain ⟨rfl, H2⟩ := q
    show z_ok sx d 224 22 [(1, .int v), (0, .ref a)] [] h32 _
    refine zh zJ_224 (i := (30, 27, 0, 0)) rfl rfl (k' := 27) (lo' := [(1, .int v), (0, .ref a)]) (st' := []) (h' := h32) rfl ?_
    refine zh zJ_224 (i := (1, 1, 0, 0)) rfl rfl (k' := 28) (lo' := [(1, .int v), (0, .ref a)]) (st' := [.int v]) (h' := h32) rfl ?_
    refine zh_if zJ_224 (a := 31) (b := 2) (z := 0) rfl (fun hc33 => ?_) (fun hc33 => ?_)
    · exact absurd hc33 hc28
    · refine zh zJ_224 (i := (0, 0, 0, 1)) rfl rfl (k' := 30) (lo' := [(1, .int v), (0, .ref a)]) (st' := [.int (Int32.ofInt (1))]) (h' := h32) rfl ?_
      refine zh zJ_224 (i := (30, 32, 0, 0)) rfl rfl (k' := 32) (lo' := [(1, .int v), (0, .ref a)]) (st' := [.int (Int32.ofInt (1))]) (h' := h32) rfl ?_
      refine zh_iret zJ_224 (a := 0) (b := 0) (z := 0) rfl (Or.inr ⟨rfl, Or.inr rfl⟩) ?_
      exact ⟨_, rfl, rfl, rfl, _, P1, Q1, S + 1, _, rfl, H2, Or.inr ⟨rfl, by omega, zCd.push (by omega) hv8⟩⟩
set_option maxRecDepth 100000 in
theorem zS_224 {sx : zX} {ty : List Nat} {h0 : zH} {a w b E : Nat} {P Q D S d : Nat} {g : Nat → Int32} {h : zH} (hd : 10 ≤ d) (hS : S + 1 ≤ P) (H : zPS ty h0 a w b E P Q D S g h) : z_ok sx d 224 0 (lv_args 0 [.ref a]) [] h (zRq (fun r h' => ∃ (c : Int32) (P' Q' S' : Nat) (g' : Nat → Int32), r = some (.int c) ∧ zPS ty h0 a w b E P' Q' D S' g' h' ∧ ((c = 0 ∧ P ≤ P' ∧ S' = S ∧ g' = g) ∨ (c = 1 ∧ S' + P ≤ P' + S ∧ zCd S g S' g' 1)))) := by
  show z_ok sx d 224 0 [(0, .ref a)] [] h _
  refine zh zJ_224 (i := (2, 0, 0, 0)) rfl rfl (k' := 1) (lo' := [(0, .ref a)]) (st' := [.ref a]) (h' := h) rfl ?_
  refine zcl (xs := []) (rest := []) H zJ_224 rfl (k' := 2) rfl (by omega) rfl rfl (Nat.le_of_ble_eq_true rfl) (M' := z_m203) rfl (Nat.le_of_ble_eq_true rfl) (zS_203 (by omega) H) (fun v h34 q => ?_)
  obtain ⟨rfl, P1, Q1, h1, h2, H1⟩ := q
  show z_ok sx d 224 2 [(0, .ref a)] [] h34 _
  refine zh zJ_224 (i := (2, 0, 0, 0)) rfl rfl (k' := 3) (lo' := [(0, .ref a)]) (st' := [.ref a]) (h' := h34) rfl ?_
  refine zldc zJ_224 rfl (k' := 4) rfl (by decide +kernel) ?_
  refine zcl (xs := [.ref (zB + 61)]) (rest := []) H1 zJ_224 rfl (k' := 5) rfl (by omega) rfl rfl (Nat.le_of_ble_eq_true rfl) (M' := z_m204) rfl (Nat.le_of_ble_eq_true rfl) (zS_204 (t := 61) (by omega) rfl (by decide) (by decide) H1) (fun v h35 q => ?_)
  obtain ⟨rfl, c, rfl, hc⟩ := q
  show z_ok sx d 224 5 [(0, .ref a)] [.int c] h35 _
  refine zh_if zJ_224 (a := 8) (b := 0) (z := 0) rfl (fun hc36 => ?_) (fun hc36 => ?_)
  · refine zh zJ_224 (i := (2, 0, 0, 0)) rfl rfl (k' := 9) (lo' := [(0, .ref a)]) (st' := [.ref a]) (h' := h35) rfl ?_
    refine zldc zJ_224 rfl (k' := 10) rfl (by decide +kernel) ?_
    refine zcl (xs := [.ref (zB + 62)]) (rest := []) H1 zJ_224 rfl (k' := 11) rfl (by omega) rfl rfl (Nat.le_of_ble_eq_true rfl) (M' := z_m204) rfl (Nat.le_of_ble_eq_true rfl) (zS_204 (t := 62) (by omega) rfl (by decide) (by decide) H1) (fun v h37 q => ?_)
    obtain ⟨rfl, c, rfl, hc⟩ := q
    show z_ok sx d 224 11 [(0, .ref a)] [.int c] h37 _
    refine zh_if zJ_224 (a := 14) (b := 0) (z := 0) rfl (fun hc38 => ?_) (fun hc38 => ?_)
    · refine zh zJ_224 (i := (0, 0, 0, -1)) rfl rfl (k' := 15) (lo' := [(0, .ref a)]) (st' := [.int (Int32.ofInt (-1))]) (h' := h37) rfl ?_
      exact zTl_224 (by omega) hS h1 H1 (Or.inl (by decide))
    · have hlt := (hc.resolve_left (fun e => hc38 (by rw [e]; rfl))).2
      refine zh zJ_224 (i := (0, 0, 0, 7)) rfl rfl (k' := 13) (lo' := [(0, .ref a)]) (st' := [.int (Int32.ofInt (7))]) (h' := h37) rfl ?_
      refine zh zJ_224 (i := (30, 15, 0, 0)) rfl rfl (k' := 15) (lo' := [(0, .ref a)]) (st' := [.int (Int32.ofInt (7))]) (h' := h37) rfl ?_
      exact zTl_224 (by omega) hS h1 H1 (Or.inr ⟨hlt, by decide⟩)
  · have hlt := (hc.resolve_left (fun e => hc36 (by rw [e]; rfl))).2
    refine zh zJ_224 (i := (0, 0, 0, 6)) rfl rfl (k' := 7) (lo' := [(0, .ref a)]) (st' := [.int (Int32.ofInt (6))]) (h' := h35) rfl ?_
    refine zh zJ_224 (i := (30, 15, 0, 0)) rfl rfl (k' := 15) (lo' := [(0, .ref a)]) (st' := [.int (Int32.ofInt (6))]) (h' := h35) rfl ?_
    exact zTl_224 (by omega) hS h1 H1 (Or.inr ⟨hlt, by decide⟩)
theorem zJ_225 : zJ3 225 z_m225 z_c225 z_h225 := ⟨rfl, rfl, rfl⟩
set_option maxRecDepth 100000 in
theorem zTl_225 {sx : zX} {ty : List Nat} {h0 : zH} {a w b E : Nat} {P D S d : Nat} {g : Nat → Int32} {h : zH} {P1 Q1 S1 : Nat} {g1 : Nat → Int32} {c : Int32} (hd : 12 ≤ d) (hS : S + 1 ≤ P) (H : zPS ty h0 a w b E P1 Q1 D S1 g1 h) (hP : S1 + P + 1 ≤ P1 + S) (hcd : zCd S g S1 g1 1) : z_ok sx d 225 84 [(1, .int c), (0, .ref a)] [] h (zRq (zGs ty h0 a w b E P D S g)) := by
  obtain ⟨bE, bP, bQ, bD, bS⟩ := H.bd
  have hS1 := hcd.1
  refine zh zJ_225 (i := (2, 0, 0, 0)) rfl rfl (k' := 85) (lo' := [(1, .int c), (0, .ref a)]) (st' := [.ref a]) (h' := h) rfl ?_
  refine zcl (xs := []) (rest := []) H zJ_225 rfl (k' := 86) rfl (by omega) rfl rfl (Nat.le_of_ble_eq_true rfl) (M' := z_m223) rfl (Nat.le_of_ble_eq_true rfl) (zS_223 (by omega) (by omega) H) (fun v h39 q => ?_)
  obtain ⟨c3, P3, Q3, D3, S3, g3, rfl, H3, h3⟩ := q
  show z_ok sx d 225 86 [(1, .int c), (0, .ref a)] [.int c3] h39 _
  refine zh_if zJ_225 (a := 89) (b := 1) (z := 0) rfl (fun hc40 => ?_) (fun hc40 => ?_)
  · obtain ⟨-, rfl, h5, h6⟩ := (h3.resolve_left (fun e => zcmp_ne.mp hc40 (by rw [e])))
    have h7 := h6.1
    have b3 := H3.bd
    refine zh zJ_225 (i := (2, 0, 0, 0)) rfl rfl (k' := 90) (lo' := [(1, .int c), (0, .ref a)]) (st' := [.ref a]) (h' := h39) rfl ?_
    refine zh zJ_225 (i := (1, 1, 0, 0)) rfl rfl (k' := 91) (lo' := [(1, .int c), (0, .ref a)]) (st' := [.int c, .ref a]) (h' := h39) rfl ?_
    refine zh_if zJ_225 (a := 94) (b := 0) (z := 0) rfl (fun hc41 => ?_) (fun hc41 => ?_)
    · refine zh zJ_225 (i := (0, 0, 0, 11)) rfl rfl (k' := 95) (lo' := [(1, .int c), (0, .ref a)]) (st' := [.int (Int32.ofInt (11)), .ref a]) (h' := h39) rfl ?_
      refine zh zJ_225 (i := (0, 0, 0, 0)) rfl rfl (k' := 96) (lo' := [(1, .int c), (0, .ref a)]) (st' := [.int (Int32.ofInt (0)), .int (Int32.ofInt (11)), .ref a]) (h' := h39) rfl ?_
      refine zcl (xs := [.int (Int32.ofInt (0)), .int (Int32.ofInt (11))]) (rest := []) H3 zJ_225 rfl (k' := 97) rfl (by omega) rfl rfl (Nat.le_of_ble_eq_true rfl) (M' := z_m221) rfl (Nat.le_of_ble_eq_true rfl) (zS_221 _ _ (by omega) H3) (fun v h42 q => ?_)
      obtain ⟨rfl, H4⟩ := q
      show z_ok sx d 225 97 [(1, .int c), (0, .ref a)] [] h42 _
      refine zh zJ_225 (i := (0, 0, 0, 1)) rfl rfl (k' := 98) (lo' := [(1, .int c), (0, .ref a)]) (st' := [.int (Int32.ofInt (1))]) (h' := h42) rfl ?_
      refine zh_iret zJ_225 (a := 0) (b := 0) (z := 0) rfl (Or.inr ⟨rfl, Or.inr rfl⟩) ?_
      exact ⟨_, rfl, rfl, rfl, _, P3, Q3, D3, S3 + 1, _, rfl, H4, Or.inr ⟨rfl, rfl, by omega, (hcd.two h6).bin (by omega) (by decide) (by decide)⟩⟩
    · refine zh zJ_225 (i := (0, 0, 0, 10)) rfl rfl (k' := 93) (lo' := [(1, .int c), (0, .ref a)]) (st' := [.int (Int32.ofInt (10)), .ref a]) (h' := h39) rfl ?_
      refine zh zJ_225 (i := (30, 95, 0, 0)) rfl rfl (k' := 95) (lo' := [(1, .int c), (0, .ref a)]) (st' := [.int (Int32.ofInt (10)), .ref a]) (h' := h39) rfl ?_
      refine zh zJ_225 (i := (0, 0, 0, 0)) rfl rfl (k' := 96) (lo' := [(1, .int c), (0, .ref a)]) (st' := [.int (Int32.ofInt (0)), .int (Int32.ofInt (10)), .ref a]) (h' := h39) rfl ?_
      refine zcl (xs := [.int (Int32.ofInt (0)), .int (Int32.ofInt (10))]) (rest := []) H3 zJ_225 rfl (k' := 97) rfl (by omega) rfl rfl (Nat.le_of_ble_eq_true rfl) (M' := z_m221) rfl (Nat.le_of_ble_eq_true rfl) (zS_221 _ _ (by omega) H3) (fun v h43 q => ?_)
      obtain ⟨rfl, H4⟩ := q
      show z_ok sx d 225 97 [(1, .int c), (0, .ref a)] [] h43 _
      refine zh zJ_225 (i := (0, 0, 0, 1)) rfl rfl (k' := 98) (lo' := [(1, .int c), (0, .ref a)]) (st' := [.int (Int32.ofInt (1))]) (h' := h43) rfl ?_
      refine zh_iret zJ_225 (a := 0) (b := 0) (z := 0) rfl (Or.inr ⟨rfl, Or.inr rfl⟩) ?_
      exact ⟨_, rfl, rfl, rfl, _, P3, Q3, D3, S3 + 1, _, rfl, H4, Or.inr ⟨rfl, rfl, by omega, (hcd.two h6).bin (by omega) (by decide) (by decide)⟩⟩
  · refine zh zJ_225 (i := (0, 0, 0, 0)) rfl rfl (k' := 88) (lo' := [(1, .int c), (0, .ref a)]) (st' := [.int (Int32.ofInt (0))]) (h' := h39) rfl ?_
    refine zh_iret zJ_225 (a := 0) (b := 0) (z := 0) rfl (Or.inr ⟨rfl, Or.inl rfl⟩) ?_
    exact ⟨_, rfl, rfl, rfl, _, P3, Q3, D3, S3, g3, rfl, H3, Or.inl rfl⟩
noncomputable def zGA (n : Nat) : Prop := ∀ {sx : zX} {ty : List Nat} {h0 : zH} {a w b E : Nat} {P Q D S d : Nat} {g : Nat → Int32} {h : zH}, D + n = 6 → 12 + 3 * n ≤ d → S + 1 ≤ P → zPS ty h0 a w b E P Q D S g h → z_ok sx d 225 0 (lv_args 0 [.ref a]) [] h (zRq (zGs ty h0 a w b E P D S g))
noncomputable def zGL (n : Nat) : Prop := ∀ {sx : zX} {ty : List Nat} {h0 : zH} {a w b E : Nat} {P Q D S d : Nat} {g : Nat → Int32} {h : zH}, D + n = 6 → 13 + 3 * n ≤ d → S + 1 ≤ P → zPS ty h0 a w b E P Q D S g h → z_ok sx d 226 0 (lv_args 0 [.ref a]) [] h (zRq (zGs ty h0 a w b E P D S g))
noncomputable def zGC (n : Nat) : Prop := ∀ {sx : zX} {ty : List Nat} {h0 : zH} {a w b E : Nat} {P Q D S d : Nat} {g : Nat → Int32} {h : zH}, D + n = 6 → 14 + 3 * n ≤ d → S + 1 ≤ P → zPS ty h0 a w b E P Q D S g h → z_ok sx d 227 0 (lv_args 0 [.ref a]) [] h (zRq (zGs ty h0 a w b E P D S g))
theorem zcmp0 {x : Int32} (h : z_cmp 0 x 0 = true) : x = 0 := Int32.toInt_inj.mp (zcmp_eq.mp h)
set_option maxRecDepth 100000 in
theorem zS_225 (n : Nat) (ih : ∀ m, n = m + 1 → zGA m ∧ zGC m) : zGA n := by
  intro sx ty h0 a w b E P Q D S d g h hn hd hS H
  obtain ⟨bE, bP, bQ, bD, bS⟩ := H.bd
  show z_ok sx d 225 0 [(0, .ref a)] [] h _
  refine zh zJ_225 (i := (2, 0, 0, 0)) rfl rfl (k' := 1) (lo' := [(0, .ref a)]) (st' := [.ref a]) (h' := h) rfl ?_
  refine zh zJ_225 (i := (0, 0, 0, 40)) rfl rfl (k' := 2) (lo' := [(0, .ref a)]) (st' := [.int (Int32.ofInt (40)), .ref a]) (h' := h) rfl ?_
  refine zcl (xs := [.int (Int32.ofInt (40))]) (rest := []) H zJ_225 rfl (k' := 3) rfl (by omega) rfl rfl (Nat.le_of_ble_eq_true rfl) (M' := z_m206) rfl (Nat.le_of_ble_eq_true rfl) (zS_206 (by omega) _ H) (fun v h44 q => ?_)
  obtain ⟨c, P1, Q1, rfl, H1, l1, l2⟩ := q
  show z_ok sx d 225 3 [(0, .ref a)] [.int c] h44 _
  have b1 := H1.bd
  refine zh_if zJ_225 (a := 31) (b := 0) (z := 0) rfl (fun hc45 => ?_) (fun hc45 => ?_)
  · refine zh zJ_225 (i := (2, 0, 0, 0)) rfl rfl (k' := 32) (lo' := [(0, .ref a)]) (st' := [.ref a]) (h' := h44) rfl ?_
    refine zldc zJ_225 rfl (k' := 33) rfl (by decide +kernel) ?_
    refine zcl (xs := [.ref (zB + 63)]) (rest := []) H1 zJ_225 rfl (k' := 34) rfl (by omega) rfl rfl (Nat.le_of_ble_eq_true rfl) (M' := z_m205) rfl (Nat.le_of_ble_eq_true rfl) (zS_205 (t := 63) (by omega) rfl (by decide) (by decide) H1) (fun v h55 q => ?_)
    obtain ⟨c2, P2, Q2, rfl, H2, k1, k2⟩ := q
    show z_ok sx d 225 34 [(0, .ref a)] [.int c2] h55 _
    have b2 := H2.bd
    refine zh_if zJ_225 (a := 64) (b := 0) (z := 0) rfl (fun hc56 => ?_) (fun hc56 => ?_)
    · refine zh zJ_225 (i := (2, 0, 0, 0)) rfl rfl (k' := 65) (lo' := [(0, .ref a)]) (st' := [.ref a]) (h' := h55) rfl ?_
      refine zcl (xs := []) (rest := []) H2 zJ_225 rfl (k' := 66) rfl (by omega) rfl rfl (Nat.le_of_ble_eq_true rfl) (M' := z_m224) rfl (Nat.le_of_ble_eq_true rfl) (zS_224 (by omega) (by omega) H2) (fun v h66 q => ?_)
      obtain ⟨c3, P3, Q3, S3, g3, rfl, H3, h3⟩ := q
      show z_ok sx d 225 66 [(0, .ref a)] [.int c3] h66 _
      refine zh_if zJ_225 (a := 69) (b := 0) (z := 0) rfl (fun hc67 => ?_) (fun hc67 => ?_)
      · have e3 : c3 = 0 := zcmp0 hc67
        obtain ⟨-, h5, rfl, rfl⟩ := h3.resolve_right (fun e => by rw [e3] at e; exact absurd e.1 (by decide))
        refine zh zJ_225 (i := (2, 0, 0, 0)) rfl rfl (k' := 70) (lo' := [(0, .ref a)]) (st' := [.ref a]) (h' := h66) rfl ?_
        refine zcl (xs := []) (rest := []) H3 zJ_225 rfl (k' := 71) rfl (by omega) rfl rfl (Nat.le_of_ble_eq_true rfl) (M' := z_m223) rfl (Nat.le_of_ble_eq_true rfl) (zS_223 (by omega) (by omega) H3) (fun v h68 q => ?_)
        obtain ⟨c4, P4, Q4, D4, S4, g4, rfl, H4, h4⟩ := q
        show z_ok sx d 225 71 [(0, .ref a)] [.int c4] h68 _
        refine zh_if zJ_225 (a := 74) (b := 1) (z := 0) rfl (fun hc69 => ?_) (fun hc69 => ?_)
        · obtain ⟨-, rfl, h6, h7⟩ := (h4.resolve_left (fun e => zcmp_ne.mp hc69 (by rw [e])))
          refine zh zJ_225 (i := (2, 0, 0, 0)) rfl rfl (k' := 75) (lo' := [(0, .ref a)]) (st' := [.ref a]) (h' := h68) rfl ?_
          refine zh zJ_225 (i := (0, 0, 0, 60)) rfl rfl (k' := 76) (lo' := [(0, .ref a)]) (st' := [.int (Int32.ofInt (60)), .ref a]) (h' := h68) rfl ?_
          refine zcl (xs := [.int (Int32.ofInt (60))]) (rest := []) H4 zJ_225 rfl (k' := 77) rfl (by omega) rfl rfl (Nat.le_of_ble_eq_true rfl) (M' := z_m206) rfl (Nat.le_of_ble_eq_true rfl) (zS_206 (by omega) _ H4) (fun v h70 q => ?_)
          obtain ⟨c5, P5, Q5, rfl, H5, m1, m2⟩ := q
          show z_ok sx d 225 77 [(0, .ref a)] [.int c5] h70 _
          refine zh zJ_225 (i := (4, 1, 0, 0)) rfl rfl (k' := 78) (lo' := [(1, .int c5), (0, .ref a)]) (st' := []) (h' := h70) rfl ?_
          refine zh zJ_225 (i := (1, 1, 0, 0)) rfl rfl (k' := 79) (lo' := [(1, .int c5), (0, .ref a)]) (st' := [.int c5]) (h' := h70) rfl ?_
          refine zh_if zJ_225 (a := 84) (b := 1) (z := 0) rfl (fun hc71 => ?_) (fun hc71 => ?_)
          · have m3 := (m2.resolve_left (fun e => zcmp_ne.mp hc71 (by rw [e]))).2
            exact zTl_225 (by omega) hS H5 (by omega) h7
          · refine zh zJ_225 (i := (2, 0, 0, 0)) rfl rfl (k' := 81) (lo' := [(1, .int c5), (0, .ref a)]) (st' := [.ref a]) (h' := h70) rfl ?_
            refine zh zJ_225 (i := (0, 0, 0, 62)) rfl rfl (k' := 82) (lo' := [(1, .int c5), (0, .ref a)]) (st' := [.int (Int32.ofInt (62)), .ref a]) (h' := h70) rfl ?_
            refine zcl (xs := [.int (Int32.ofInt (62))]) (rest := []) H5 zJ_225 rfl (k' := 83) rfl (by omega) rfl rfl (Nat.le_of_ble_eq_true rfl) (M' := z_m206) rfl (Nat.le_of_ble_eq_true rfl) (zS_206 (by omega) _ H5) (fun v h72 q => ?_)
            obtain ⟨c6, P6, Q6, rfl, H6, n1, n2⟩ := q
            show z_ok sx d 225 83 [(1, .int c5), (0, .ref a)] [.int c6] h72 _
            refine zh_if zJ_225 (a := 87) (b := 0) (z := 0) rfl (fun hc73 => ?_) (fun hc73 => ?_)
            · refine zh zJ_225 (i := (0, 0, 0, 0)) rfl rfl (k' := 88) (lo' := [(1, .int c5), (0, .ref a)]) (st' := [.int (Int32.ofInt (0))]) (h' := h72) rfl ?_
              refine zh_iret zJ_225 (a := 0) (b := 0) (z := 0) rfl (Or.inr ⟨rfl, Or.inl rfl⟩) ?_
              exact ⟨_, rfl, rfl, rfl, _, P6, Q6, _, S4, g4, rfl, H6, Or.inl rfl⟩
            · have n3 := (n2.resolve_left (fun e => hc73 (by rw [e]; rfl))).2
              exact zTl_225 (by omega) hS H6 (by omega) h7
        · refine zh zJ_225 (i := (0, 0, 0, 0)) rfl rfl (k' := 73) (lo' := [(0, .ref a)]) (st' := [.int (Int32.ofInt (0))]) (h' := h68) rfl ?_
          refine zh_iret zJ_225 (a := 0) (b := 0) (z := 0) rfl (Or.inr ⟨rfl, Or.inl rfl⟩) ?_
          exact ⟨_, rfl, rfl, rfl, _, P4, Q4, D4, S4, g4, rfl, H4, Or.inl rfl⟩
      · obtain ⟨-, h5, h6⟩ := h3.resolve_left (fun e => hc67 (by rw [e.1]; rfl))
        refine zh zJ_225 (i := (0, 0, 0, 1)) rfl rfl (k' := 68) (lo' := [(0, .ref a)]) (st' := [.int (Int32.ofInt (1))]) (h' := h66) rfl ?_
        refine zh_iret zJ_225 (a := 0) (b := 0) (z := 0) rfl (Or.inr ⟨rfl, Or.inr rfl⟩) ?_
        exact ⟨_, rfl, rfl, rfl, _, P3, Q3, D, S3, g3, rfl, H3, Or.inr ⟨rfl, rfl, by omega, h6⟩⟩
    · have k3 := (k2.resolve_left (fun e => hc56 (by rw [e]; rfl))).2
      refine zh zJ_225 (i := (2, 0, 0, 0)) rfl rfl (k' := 36) (lo' := [(0, .ref a)]) (st' := [.ref a]) (h' := h55) rfl ?_
      refine zg13 H2 zJ_225 rfl (k' := 37) rfl (fun x57 ex57 => ?_)
      refine zh zJ_225 (i := (0, 0, 0, 6)) rfl rfl (k' := 38) (lo' := [(0, .ref a)]) (st' := [.int (Int32.ofInt (6)), .int x57]) (h' := h55) rfl ?_
      refine zh_icmp zJ_225 (a := 41) (b := 1) (z := 0) rfl (fun hc58 => ?_) (fun hc58 => ?_)
      · have hD : D < 6 := (by have := zcmp_ne.mp hc58; rw [zI_c (by decide) (by decide)] at this; omega)
        obtain ⟨m, rfl⟩ : ∃ m, n = m + 1 := ⟨n - 1, by omega⟩
        obtain ⟨gA, gC⟩ := ih m rfl
        refine zh zJ_225 (i := (2, 0, 0, 0)) rfl rfl (k' := 42) (lo' := [(0, .ref a)]) (st' := [.ref a]) (h' := h55) rfl ?_
        refine zh zJ_225 (i := (27, 0, 0, 0)) rfl rfl (k' := 43) (lo' := [(0, .ref a)]) (st' := [.ref a, .ref a]) (h' := h55) rfl ?_
        refine zg13 H2 zJ_225 rfl (k' := 44) rfl (fun x59 ex59 => ?_)
        refine zh zJ_225 (i := (0, 0, 0, 1)) rfl rfl (k' := 45) (lo' := [(0, .ref a)]) (st' := [.int (Int32.ofInt (1)), .int x59, .ref a]) (h' := h55) rfl ?_
        refine zh zJ_225 (i := (8, 0, 0, 0)) rfl rfl (k' := 46) (lo' := [(0, .ref a)]) (st' := [.int (x59 + (Int32.ofInt (1))), .ref a]) (h' := h55) rfl ?_
        refine zp13 H2 zJ_225 rfl (k' := 47) rfl (D + 1) (by rw [zI_add ex59 (zI_c (by decide) (by decide)) (by omega) (by omega)]; omega) (by omega) (fun h60 Hh60 => ?_)
        refine zh zJ_225 (i := (2, 0, 0, 0)) rfl rfl (k' := 48) (lo' := [(0, .ref a)]) (st' := [.ref a]) (h' := h60) rfl ?_
        refine zcl (xs := []) (rest := []) Hh60 zJ_225 rfl (k' := 49) rfl (by omega) rfl rfl (Nat.le_of_ble_eq_true rfl) (M' := z_m225) rfl (Nat.le_of_ble_eq_true rfl) (gA (by omega) (by omega) (by omega) Hh60) (fun v h61 q => ?_)
        obtain ⟨c3, P3, Q3, D3, S3, g3, rfl, H3, h3⟩ := q
        show z_ok sx d 225 49 [(0, .ref a)] [.int c3] h61 _
        refine zh_if zJ_225 (a := 52) (b := 1) (z := 0) rfl (fun hc62 => ?_) (fun hc62 => ?_)
        · obtain ⟨-, rfl, h5, h6⟩ := (h3.resolve_left (fun e => zcmp_ne.mp hc62 (by rw [e])))
          have h7 := h6.1
          have b3 := H3.bd
          refine zh zJ_225 (i := (2, 0, 0, 0)) rfl rfl (k' := 53) (lo' := [(0, .ref a)]) (st' := [.ref a]) (h' := h61) rfl ?_
          refine zh zJ_225 (i := (27, 0, 0, 0)) rfl rfl (k' := 54) (lo' := [(0, .ref a)]) (st' := [.ref a, .ref a]) (h' := h61) rfl ?_
          refine zg13 H3 zJ_225 rfl (k' := 55) rfl (fun x63 ex63 => ?_)
          refine zh zJ_225 (i := (0, 0, 0, 1)) rfl rfl (k' := 56) (lo' := [(0, .ref a)]) (st' := [.int (Int32.ofInt (1)), .int x63, .ref a]) (h' := h61) rfl ?_
          refine zh zJ_225 (i := (9, 0, 0, 0)) rfl rfl (k' := 57) (lo' := [(0, .ref a)]) (st' := [.int (x63 - (Int32.ofInt (1))), .ref a]) (h' := h61) rfl ?_
          refine zp13 H3 zJ_225 rfl (k' := 58) rfl (D) (by rw [zI_sub ex63 (zI_c (by decide) (by decide)) (by omega) (by omega)]; omega) (by omega) (fun h64 Hh64 => ?_)
          refine zh zJ_225 (i := (2, 0, 0, 0)) rfl rfl (k' := 59) (lo' := [(0, .ref a)]) (st' := [.ref a]) (h' := h64) rfl ?_
          refine zh zJ_225 (i := (0, 0, 0, 12)) rfl rfl (k' := 60) (lo' := [(0, .ref a)]) (st' := [.int (Int32.ofInt (12)), .ref a]) (h' := h64) rfl ?_
          refine zh zJ_225 (i := (0, 0, 0, 0)) rfl rfl (k' := 61) (lo' := [(0, .ref a)]) (st' := [.int (Int32.ofInt (0)), .int (Int32.ofInt (12)), .ref a]) (h' := h64) rfl ?_
          refine zcl (xs := [.int (Int32.ofInt (0)), .int (Int32.ofInt (12))]) (rest := []) Hh64 zJ_225 rfl (k' := 62) rfl (by omega) rfl rfl (Nat.le_of_ble_eq_true rfl) (M' := z_m221) rfl (Nat.le_of_ble_eq_true rfl) (zS_221 _ _ (by omega) Hh64) (fun v h65 q => ?_)
          obtain ⟨rfl, H4⟩ := q
          show z_ok sx d 225 62 [(0, .ref a)] [] h65 _
          refine zh zJ_225 (i := (0, 0, 0, 1)) rfl rfl (k' := 63) (lo' := [(0, .ref a)]) (st' := [.int (Int32.ofInt (1))]) (h' := h65) rfl ?_
          refine zh_iret zJ_225 (a := 0) (b := 0) (z := 0) rfl (Or.inr ⟨rfl, Or.inr rfl⟩) ?_
          exact ⟨_, rfl, rfl, rfl, _, P3, Q3, D, S3 + 1, _, rfl, H4, Or.inr ⟨rfl, rfl, by omega, h6.not (by omega) (by decide)⟩⟩
        · refine zh zJ_225 (i := (0, 0, 0, 0)) rfl rfl (k' := 51) (lo' := [(0, .ref a)]) (st' := [.int (Int32.ofInt (0))]) (h' := h61) rfl ?_
          refine zh_iret zJ_225 (a := 0) (b := 0) (z := 0) rfl (Or.inr ⟨rfl, Or.inl rfl⟩) ?_
          exact ⟨_, rfl, rfl, rfl, _, P3, Q3, D3, S3, g3, rfl, H3, Or.inl rfl⟩
      · refine zh zJ_225 (i := (0, 0, 0, 0)) rfl rfl (k' := 40) (lo' := [(0, .ref a)]) (st' := [.int (Int32.ofInt (0))]) (h' := h55) rfl ?_
        refine zh_iret zJ_225 (a := 0) (b := 0) (z := 0) rfl (Or.inr ⟨rfl, Or.inl rfl⟩) ?_
        exact ⟨_, rfl, rfl, rfl, _, P2, Q2, D, S, g, rfl, H2, Or.inl rfl⟩
  · have l3 := (l2.resolve_left (fun e => hc45 (by rw [e]; rfl))).2
    refine zh zJ_225 (i := (2, 0, 0, 0)) rfl rfl (k' := 5) (lo' := [(0, .ref a)]) (st' := [.ref a]) (h' := h44) rfl ?_
    refine zg13 H1 zJ_225 rfl (k' := 6) rfl (fun x46 ex46 => ?_)
    refine zh zJ_225 (i := (0, 0, 0, 6)) rfl rfl (k' := 7) (lo' := [(0, .ref a)]) (st' := [.int (Int32.ofInt (6)), .int x46]) (h' := h44) rfl ?_
    refine zh_icmp zJ_225 (a := 10) (b := 1) (z := 0) rfl (fun hc47 => ?_) (fun hc47 => ?_)
    · have hD : D < 6 := (by have := zcmp_ne.mp hc47; rw [zI_c (by decide) (by decide)] at this; omega)
      obtain ⟨m, rfl⟩ : ∃ m, n = m + 1 := ⟨n - 1, by omega⟩
      obtain ⟨gA, gC⟩ := ih m rfl
      refine zh zJ_225 (i := (2, 0, 0, 0)) rfl rfl (k' := 11) (lo' := [(0, .ref a)]) (st' := [.ref a]) (h' := h44) rfl ?_
      refine zh zJ_225 (i := (27, 0, 0, 0)) rfl rfl (k' := 12) (lo' := [(0, .ref a)]) (st' := [.ref a, .ref a]) (h' := h44) rfl ?_
      refine zg13 H1 zJ_225 rfl (k' := 13) rfl (fun x48 ex48 => ?_)
      refine zh zJ_225 (i := (0, 0, 0, 1)) rfl rfl (k' := 14) (lo' := [(0, .ref a)]) (st' := [.int (Int32.ofInt (1)), .int x48, .ref a]) (h' := h44) rfl ?_
      refine zh zJ_225 (i := (8, 0, 0, 0)) rfl rfl (k' := 15) (lo' := [(0, .ref a)]) (st' := [.int (x48 + (Int32.ofInt (1))), .ref a]) (h' := h44) rfl ?_
      refine zp13 H1 zJ_225 rfl (k' := 16) rfl (D + 1) (by rw [zI_add ex48 (zI_c (by decide) (by decide)) (by omega) (by omega)]; omega) (by omega) (fun h49 Hh49 => ?_)
      refine zh zJ_225 (i := (2, 0, 0, 0)) rfl rfl (k' := 17) (lo' := [(0, .ref a)]) (st' := [.ref a]) (h' := h49) rfl ?_
      refine zcl (xs := []) (rest := []) Hh49 zJ_225 rfl (k' := 18) rfl (by omega) rfl rfl (Nat.le_of_ble_eq_true rfl) (M' := z_m227) rfl (Nat.le_of_ble_eq_true rfl) (gC (by omega) (by omega) (by omega) Hh49) (fun v h50 q => ?_)
      obtain ⟨c3, P3, Q3, D3, S3, g3, rfl, H3, h3⟩ := q
      show z_ok sx d 225 18 [(0, .ref a)] [.int c3] h50 _
      refine zh_if zJ_225 (a := 21) (b := 1) (z := 0) rfl (fun hc51 => ?_) (fun hc51 => ?_)
      · obtain ⟨-, rfl, h5, h6⟩ := (h3.resolve_left (fun e => zcmp_ne.mp hc51 (by rw [e])))
        have h7 := h6.1
        refine zh zJ_225 (i := (2, 0, 0, 0)) rfl rfl (k' := 22) (lo' := [(0, .ref a)]) (st' := [.ref a]) (h' := h50) rfl ?_
        refine zh zJ_225 (i := (27, 0, 0, 0)) rfl rfl (k' := 23) (lo' := [(0, .ref a)]) (st' := [.ref a, .ref a]) (h' := h50) rfl ?_
        refine zg13 H3 zJ_225 rfl (k' := 24) rfl (fun x52 ex52 => ?_)
        refine zh zJ_225 (i := (0, 0, 0, 1)) rfl rfl (k' := 25) (lo' := [(0, .ref a)]) (st' := [.int (Int32.ofInt (1)), .int x52, .ref a]) (h' := h50) rfl ?_
        refine zh zJ_225 (i := (9, 0, 0, 0)) rfl rfl (k' := 26) (lo' := [(0, .ref a)]) (st' := [.int (x52 - (Int32.ofInt (1))), .ref a]) (h' := h50) rfl ?_
        refine zp13 H3 zJ_225 rfl (k' := 27) rfl (D) (by rw [zI_sub ex52 (zI_c (by decide) (by decide)) (by omega) (by omega)]; omega) (by omega) (fun h53 Hh53 => ?_)
        refine zh zJ_225 (i := (2, 0, 0, 0)) rfl rfl (k' := 28) (lo' := [(0, .ref a)]) (st' := [.ref a]) (h' := h53) rfl ?_
        refine zh zJ_225 (i := (0, 0, 0, 41)) rfl rfl (k' := 29) (lo' := [(0, .ref a)]) (st' := [.int (Int32.ofInt (41)), .ref a]) (h' := h53) rfl ?_
        refine zcl (xs := [.int (Int32.ofInt (41))]) (rest := []) Hh53 zJ_225 rfl (k' := 30) rfl (by omega) rfl rfl (Nat.le_of_ble_eq_true rfl) (M' := z_m206) rfl (Nat.le_of_ble_eq_true rfl) (zS_206 (by omega) _ Hh53) (fun v h54 q => ?_)
        obtain ⟨c4, P4, Q4, rfl, H4, l4, l5⟩ := q
        show z_ok sx d 225 30 [(0, .ref a)] [.int c4] h54 _
        refine zh_iret zJ_225 (a := 0) (b := 0) (z := 0) rfl (Or.inr ⟨rfl, l5.imp id (fun q => q.1)⟩) ?_
        exact ⟨_, rfl, rfl, rfl, _, P4, Q4, D, S3, g3, rfl, H4, l5.imp id (fun q => ⟨q.1, rfl, by omega, h6⟩)⟩
      · refine zh zJ_225 (i := (0, 0, 0, 0)) rfl rfl (k' := 20) (lo' := [(0, .ref a)]) (st' := [.int (Int32.ofInt (0))]) (h' := h50) rfl ?_
        refine zh_iret zJ_225 (a := 0) (b := 0) (z := 0) rfl (Or.inr ⟨rfl, Or.inl rfl⟩) ?_
        exact ⟨_, rfl, rfl, rfl, _, P3, Q3, D3, S3, g3, rfl, H3, Or.inl rfl⟩
    · refine zh zJ_225 (i := (0, 0, 0, 0)) rfl rfl (k' := 9) (lo' := [(0, .ref a)]) (st' := [.int (Int32.ofInt (0))]) (h' := h44) rfl ?_
      refine zh_iret zJ_225 (a := 0) (b := 0) (z := 0) rfl (Or.inr ⟨rfl, Or.inl rfl⟩) ?_
      exact ⟨_, rfl, rfl, rfl, _, P1, Q1, D, S, g, rfl, H1, Or.inl rfl⟩
theorem zJ_226 : zJ3 226 z_m226 z_c226 z_h226 := ⟨rfl, rfl, rfl⟩
set_option maxRecDepth 100000 in
theorem zLp_226 {sx : zX} {ty : List Nat} {h0 : zH} {a w b E : Nat} {P D S d : Nat} {g : Nat → Int32} {N : Nat} (hA : zGA N) (hN : D + N = 6) (hd : 13 + 3 * N ≤ d) (hS : S + 1 ≤ P) : ∀ (n P1 Q1 S1 : Nat) (g1 : Nat → Int32) (h : zH), 400 - P1 < n → zPS ty h0 a w b E P1 Q1 D S1 g1 h → S1 + P ≤ P1 + S → zCd S g S1 g1 1 → z_ok sx d 226 5 [(0, .ref a)] [] h (zRq (zGs ty h0 a w b E P D S g))
  | 0, _, _, _, _, _, hn, _, _, _ => absurd hn (Nat.not_lt_zero _)
  | n + 1, P1, Q1, S1, g1, h, hn, H, hP1, hcd => by
    obtain ⟨bE, bP, bQ, bD, bS⟩ := H.bd
    refine zh zJ_226 (i := (2, 0, 0, 0)) rfl rfl (k' := 6) (lo' := [(0, .ref a)]) (st' := [.ref a]) (h' := h) rfl ?_
    refine zldc zJ_226 rfl (k' := 7) rfl (by decide +kernel) ?_
    refine zcl (xs := [.ref (zB + 64)]) (rest := []) H zJ_226 rfl (k' := 8) rfl (by omega) rfl rfl (Nat.le_of_ble_eq_true rfl) (M' := z_m205) rfl (Nat.le_of_ble_eq_true rfl) (zS_205 (t := 64) (by omega) rfl (by decide) (by decide) H) (fun v h74 q => ?_)
    obtain ⟨c, P2, Q2, rfl, H2, l1, l2⟩ := q
    show z_ok sx d 226 8 [(0, .ref a)] [.int c] h74 _
    have b2 := H2.bd
    refine zh_if zJ_226 (a := 19) (b := 0) (z := 0) rfl (fun hc75 => ?_) (fun hc75 => ?_)
    · refine zh zJ_226 (i := (0, 0, 0, 1)) rfl rfl (k' := 20) (lo' := [(0, .ref a)]) (st' := [.int (Int32.ofInt (1))]) (h' := h74) rfl ?_
      refine zh_iret zJ_226 (a := 0) (b := 0) (z := 0) rfl (Or.inr ⟨rfl, Or.inr rfl⟩) ?_
      exact ⟨_, rfl, rfl, rfl, _, P2, Q2, D, S1, g1, rfl, H2, Or.inr ⟨rfl, rfl, by omega, hcd⟩⟩
    · have l3 := (l2.resolve_left (fun e => hc75 (by rw [e]; rfl))).2
      refine zh zJ_226 (i := (2, 0, 0, 0)) rfl rfl (k' := 10) (lo' := [(0, .ref a)]) (st' := [.ref a]) (h' := h74) rfl ?_
      refine zcl (xs := []) (rest := []) H2 zJ_226 rfl (k' := 11) rfl (by omega) rfl rfl (Nat.le_of_ble_eq_true rfl) (M' := z_m225) rfl (Nat.le_of_ble_eq_true rfl) (hA (by omega) (by omega) (by omega) H2) (fun v h76 q => ?_)
      obtain ⟨c3, P3, Q3, D3, S3, g3, rfl, H3, h3⟩ := q
      show z_ok sx d 226 11 [(0, .ref a)] [.int c3] h76 _
      refine zh_if zJ_226 (a := 14) (b := 1) (z := 0) rfl (fun hc77 => ?_) (fun hc77 => ?_)
      · obtain ⟨-, rfl, h5, h6⟩ := (h3.resolve_left (fun e => zcmp_ne.mp hc77 (by rw [e])))
        have h7 := h6.1
        have b3 := H3.bd
        refine zh zJ_226 (i := (2, 0, 0, 0)) rfl rfl (k' := 15) (lo' := [(0, .ref a)]) (st' := [.ref a]) (h' := h76) rfl ?_
        refine zh zJ_226 (i := (0, 0, 0, 13)) rfl rfl (k' := 16) (lo' := [(0, .ref a)]) (st' := [.int (Int32.ofInt (13)), .ref a]) (h' := h76) rfl ?_
        refine zh zJ_226 (i := (0, 0, 0, 0)) rfl rfl (k' := 17) (lo' := [(0, .ref a)]) (st' := [.int (Int32.ofInt (0)), .int (Int32.ofInt (13)), .ref a]) (h' := h76) rfl ?_
        refine zcl (xs := [.int (Int32.ofInt (0)), .int (Int32.ofInt (13))]) (rest := []) H3 zJ_226 rfl (k' := 18) rfl (by omega) rfl rfl (Nat.le_of_ble_eq_true rfl) (M' := z_m221) rfl (Nat.le_of_ble_eq_true rfl) (zS_221 _ _ (by omega) H3) (fun v h78 q => ?_)
        obtain ⟨rfl, H4⟩ := q
        show z_ok sx d 226 18 [(0, .ref a)] [] h78 _
        refine zh zJ_226 (i := (30, 5, 0, 0)) rfl rfl (k' := 5) (lo' := [(0, .ref a)]) (st' := []) (h' := h78) rfl ?_
        exact zLp_226 hA hN hd hS n P3 Q3 (S3 + 1) _ _ (by omega) H4 (by omega) ((hcd.two h6).bin (by omega) (by decide) (by decide))
      · refine zh zJ_226 (i := (0, 0, 0, 0)) rfl rfl (k' := 13) (lo' := [(0, .ref a)]) (st' := [.int (Int32.ofInt (0))]) (h' := h76) rfl ?_
        refine zh_iret zJ_226 (a := 0) (b := 0) (z := 0) rfl (Or.inr ⟨rfl, Or.inl rfl⟩) ?_
        exact ⟨_, rfl, rfl, rfl, _, P3, Q3, D3, S3, g3, rfl, H3, Or.inl rfl⟩
set_option maxRecDepth 100000 in
theorem zS_226 {sx : zX} {ty : List Nat} {h0 : zH} {a w b E : Nat} {P Q D S d : Nat} {g : Nat → Int32} {h : zH} {N : Nat} (hA : zGA N) (hN : D + N = 6) (hd : 13 + 3 * N ≤ d) (hS : S + 1 ≤ P) (H : zPS ty h0 a w b E P Q D S g h) : z_ok sx d 226 0 (lv_args 0 [.ref a]) [] h (zRq (zGs ty h0 a w b E P D S g)) := by
  show z_ok sx d 226 0 [(0, .ref a)] [] h _
  refine zh zJ_226 (i := (2, 0, 0, 0)) rfl rfl (k' := 1) (lo' := [(0, .ref a)]) (st' := [.ref a]) (h' := h) rfl ?_
  refine zcl (xs := []) (rest := []) H zJ_226 rfl (k' := 2) rfl (by omega) rfl rfl (Nat.le_of_ble_eq_true rfl) (M' := z_m225) rfl (Nat.le_of_ble_eq_true rfl) (hA (by omega) (by omega) (by omega) H) (fun v h79 q => ?_)
  obtain ⟨c3, P3, Q3, D3, S3, g3, rfl, H3, h3⟩ := q
  show z_ok sx d 226 2 [(0, .ref a)] [.int c3] h79 _
  refine zh_if zJ_226 (a := 5) (b := 1) (z := 0) rfl (fun hc80 => ?_) (fun hc80 => ?_)
  · obtain ⟨-, rfl, h5, h6⟩ := (h3.resolve_left (fun e => zcmp_ne.mp hc80 (by rw [e])))
    exact zLp_226 hA hN hd hS 401 P3 Q3 S3 _ _ (by omega) H3 h5 h6
  · refine zh zJ_226 (i := (0, 0, 0, 0)) rfl rfl (k' := 4) (lo' := [(0, .ref a)]) (st' := [.int (Int32.ofInt (0))]) (h' := h79) rfl ?_
    refine zh_iret zJ_226 (a := 0) (b := 0) (z := 0) rfl (Or.inr ⟨rfl, Or.inl rfl⟩) ?_
    exact ⟨_, rfl, rfl, rfl, _, P3, Q3, D3, S3, g3, rfl, H3, Or.inl rfl⟩
theorem zJ_227 : zJ3 227 z_m227 z_c227 z_h227 := ⟨rfl, rfl, rfl⟩
set_option maxRecDepth 100000 in
theorem zLp_227 {sx : zX} {ty : List Nat} {h0 : zH} {a w b E : Nat} {P D S d : Nat} {g : Nat → Int32} {N : Nat} (hA : zGL N) (hN : D + N = 6) (hd : 14 + 3 * N ≤ d) (hS : S + 1 ≤ P) : ∀ (n P1 Q1 S1 : Nat) (g1 : Nat → Int32) (h : zH), 400 - P1 < n → zPS ty h0 a w b E P1 Q1 D S1 g1 h → S1 + P ≤ P1 + S → zCd S g S1 g1 1 → z_ok sx d 227 5 [(0, .ref a)] [] h (zRq (zGs ty h0 a w b E P D S g))
  | 0, _, _, _, _, _, hn, _, _, _ => absurd hn (Nat.not_lt_zero _)
  | n + 1, P1, Q1, S1, g1, h, hn, H, hP1, hcd => by
    obtain ⟨bE, bP, bQ, bD, bS⟩ := H.bd
    refine zh zJ_227 (i := (2, 0, 0, 0)) rfl rfl (k' := 6) (lo' := [(0, .ref a)]) (st' := [.ref a]) (h' := h) rfl ?_
    refine zldc zJ_227 rfl (k' := 7) rfl (by decide +kernel) ?_
    refine zcl (xs := [.ref (zB + 65)]) (rest := []) H zJ_227 rfl (k' := 8) rfl (by omega) rfl rfl (Nat.le_of_ble_eq_true rfl) (M' := z_m205) rfl (Nat.le_of_ble_eq_true rfl) (zS_205 (t := 65) (by omega) rfl (by decide) (by decide) H) (fun v h81 q => ?_)
    obtain ⟨c, P2, Q2, rfl, H2, l1, l2⟩ := q
    show z_ok sx d 227 8 [(0, .ref a)] [.int c] h81 _
    have b2 := H2.bd
    refine zh_if zJ_227 (a := 19) (b := 0) (z := 0) rfl (fun hc82 => ?_) (fun hc82 => ?_)
    · refine zh zJ_227 (i := (0, 0, 0, 1)) rfl rfl (k' := 20) (lo' := [(0, .ref a)]) (st' := [.int (Int32.ofInt (1))]) (h' := h81) rfl ?_
      refine zh_iret zJ_227 (a := 0) (b := 0) (z := 0) rfl (Or.inr ⟨rfl, Or.inr rfl⟩) ?_
      exact ⟨_, rfl, rfl, rfl, _, P2, Q2, D, S1, g1, rfl, H2, Or.inr ⟨rfl, rfl, by omega, hcd⟩⟩
    · have l3 := (l2.resolve_left (fun e => hc82 (by rw [e]; rfl))).2
      refine zh zJ_227 (i := (2, 0, 0, 0)) rfl rfl (k' := 10) (lo' := [(0, .ref a)]) (st' := [.ref a]) (h' := h81) rfl ?_
      refine zcl (xs := []) (rest := []) H2 zJ_227 rfl (k' := 11) rfl (by omega) rfl rfl (Nat.le_of_ble_eq_true rfl) (M' := z_m226) rfl (Nat.le_of_ble_eq_true rfl) (hA (by omega) (by omega) (by omega) H2) (fun v h83 q => ?_)
      obtain ⟨c3, P3, Q3, D3, S3, g3, rfl, H3, h3⟩ := q
      show z_ok sx d 227 11 [(0, .ref a)] [.int c3] h83 _
      refine zh_if zJ_227 (a := 14) (b := 1) (z := 0) rfl (fun hc84 => ?_) (fun hc84 => ?_)
      · obtain ⟨-, rfl, h5, h6⟩ := (h3.resolve_left (fun e => zcmp_ne.mp hc84 (by rw [e])))
        have h7 := h6.1
        have b3 := H3.bd
        refine zh zJ_227 (i := (2, 0, 0, 0)) rfl rfl (k' := 15) (lo' := [(0, .ref a)]) (st' := [.ref a]) (h' := h83) rfl ?_
        refine zh zJ_227 (i := (0, 0, 0, 14)) rfl rfl (k' := 16) (lo' := [(0, .ref a)]) (st' := [.int (Int32.ofInt (14)), .ref a]) (h' := h83) rfl ?_
        refine zh zJ_227 (i := (0, 0, 0, 0)) rfl rfl (k' := 17) (lo' := [(0, .ref a)]) (st' := [.int (Int32.ofInt (0)), .int (Int32.ofInt (14)), .ref a]) (h' := h83) rfl ?_
        refine zcl (xs := [.int (Int32.ofInt (0)), .int (Int32.ofInt (14))]) (rest := []) H3 zJ_227 rfl (k' := 18) rfl (by omega) rfl rfl (Nat.le_of_ble_eq_true rfl) (M' := z_m221) rfl (Nat.le_of_ble_eq_true rfl) (zS_221 _ _ (by omega) H3) (fun v h85 q => ?_)
        obtain ⟨rfl, H4⟩ := q
        show z_ok sx d 227 18 [(0, .ref a)] [] h85 _
        refine zh zJ_227 (i := (30, 5, 0, 0)) rfl rfl (k' := 5) (lo' := [(0, .ref a)]) (st' := []) (h' := h85) rfl ?_
        exact zLp_227 hA hN hd hS n P3 Q3 (S3 + 1) _ _ (by omega) H4 (by omega) ((hcd.two h6).bin (by omega) (by decide) (by decide))
      · refine zh zJ_227 (i := (0, 0, 0, 0)) rfl rfl (k' := 13) (lo' := [(0, .ref a)]) (st' := [.int (Int32.ofInt (0))]) (h' := h83) rfl ?_
        refine zh_iret zJ_227 (a := 0) (b := 0) (z := 0) rfl (Or.inr ⟨rfl, Or.inl rfl⟩) ?_
        exact ⟨_, rfl, rfl, rfl, _, P3, Q3, D3, S3, g3, rfl, H3, Or.inl rfl⟩
set_option maxRecDepth 100000 in
theorem zS_227 {sx : zX} {ty : List Nat} {h0 : zH} {a w b E : Nat} {P Q D S d : Nat} {g : Nat → Int32} {h : zH} {N : Nat} (hA : zGL N) (hN : D + N = 6) (hd : 14 + 3 * N ≤ d) (hS : S + 1 ≤ P) (H : zPS ty h0 a w b E P Q D S g h) : z_ok sx d 227 0 (lv_args 0 [.ref a]) [] h (zRq (zGs ty h0 a w b E P D S g)) := by
  show z_ok sx d 227 0 [(0, .ref a)] [] h _
  refine zh zJ_227 (i := (2, 0, 0, 0)) rfl rfl (k' := 1) (lo' := [(0, .ref a)]) (st' := [.ref a]) (h' := h) rfl ?_
  refine zcl (xs := []) (rest := []) H zJ_227 rfl (k' := 2) rfl (by omega) rfl rfl (Nat.le_of_ble_eq_true rfl) (M' := z_m226) rfl (Nat.le_of_ble_eq_true rfl) (hA (by omega) (by omega) (by omega) H) (fun v h86 q => ?_)
  obtain ⟨c3, P3, Q3, D3, S3, g3, rfl, H3, h3⟩ := q
  show z_ok sx d 227 2 [(0, .ref a)] [.int c3] h86 _
  refine zh_if zJ_227 (a := 5) (b := 1) (z := 0) rfl (fun hc87 => ?_) (fun hc87 => ?_)
  · obtain ⟨-, rfl, h5, h6⟩ := (h3.resolve_left (fun e => zcmp_ne.mp hc87 (by rw [e])))
    exact zLp_227 hA hN hd hS 401 P3 Q3 S3 _ _ (by omega) H3 h5 h6
  · refine zh zJ_227 (i := (0, 0, 0, 0)) rfl rfl (k' := 4) (lo' := [(0, .ref a)]) (st' := [.int (Int32.ofInt (0))]) (h' := h86) rfl ?_
    refine zh_iret zJ_227 (a := 0) (b := 0) (z := 0) rfl (Or.inr ⟨rfl, Or.inl rfl⟩) ?_
    exact ⟨_, rfl, rfl, rfl, _, P3, Q3, D3, S3, g3, rfl, H3, Or.inl rfl⟩
theorem zGr_all : ∀ n, zGA n ∧ zGC n
  | 0 => by
    have hA : zGA 0 := zS_225 0 (fun m e => by omega)
    have hL : zGL 0 := fun hn hd hS H => zS_226 hA hn hd hS H
    exact ⟨hA, fun hn hd hS H => zS_227 hL hn hd hS H⟩
  | n + 1 => by
    have hA : zGA (n + 1) := zS_225 (n + 1) (fun m e => by
      have e : m = n := by omega
      subst e
      exact zGr_all m)
    have hL : zGL (n + 1) := fun hn hd hS H => zS_226 hA hn hd hS H
    exact ⟨hA, fun hn hd hS H => zS_227 hL hn hd hS H⟩
