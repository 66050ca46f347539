/-! the reference's reader: looks at the tape; printed with wip/gen/gen_rd2.py -/
theorem zJ_201 : zJ3 201 z_m201 z_c201 z_h201 := ⟨rfl, rfl, rfl⟩
set_option maxRecDepth 100000 in
theorem zS_201 {sx : zX} {ty : List Nat} {h0 : zH} {a w b E : Nat} {P Q D S d : Nat} {g : Nat → Int32} {h : zH} (H : zPS ty h0 a w b E P Q D S g h) (u v : Int32) : z_ok sx d 201 0 (lv_args 0 [.ref a, .int u, .int v]) [] h (zRq (fun r h' => h' = h ∧ ∃ c : Int32, r = some (.int c) ∧ (c = 0 ∨ (c = 1 ∧ P < E)))) := by
  obtain ⟨bE, bP, bQ, bD, bS⟩ := H.bd
  show z_ok sx d 201 0 [(0, .ref a), (1, .int u), (2, .int v)] [] h _
  refine zh zJ_201 (i := (2, 0, 0, 0)) rfl rfl (k' := 1) (lo' := [(0, .ref a), (1, .int u), (2, .int v)]) (st' := [.ref a]) (h' := h) rfl ?_
  refine zg10 H zJ_201 rfl (k' := 2) rfl (fun x1 ex1 => ?_)
  refine zh zJ_201 (i := (2, 0, 0, 0)) rfl rfl (k' := 3) (lo' := [(0, .ref a), (1, .int u), (2, .int v)]) (st' := [.ref a, .int x1]) (h' := h) rfl ?_
  refine zg11 H zJ_201 rfl (k' := 4) rfl (fun x2 ex2 => ?_)
  refine zh_icmp zJ_201 (a := 21) (b := 3) (z := 0) rfl (fun hc3 => ?_) (fun hc3 => ?_)
  · refine zh zJ_201 (i := (0, 0, 0, 0)) rfl rfl (k' := 22) (lo' := [(0, .ref a), (1, .int u), (2, .int v)]) (st' := [.int (Int32.ofInt (0))]) (h' := h) rfl ?_
    refine zh_iret zJ_201 (a := 0) (b := 0) (z := 0) rfl (Or.inr ⟨rfl, Or.inl rfl⟩) ?_
    exact ⟨_, rfl, rfl, rfl, rfl, _, rfl, Or.inl rfl⟩
  · have hlt : P < E := by
      have := mt zcmp_ge.mpr hc3
      omega
    refine zh zJ_201 (i := (2, 0, 0, 0)) rfl rfl (k' := 6) (lo' := [(0, .ref a), (1, .int u), (2, .int v)]) (st' := [.ref a]) (h' := h) rfl ?_
    refine zg8 H zJ_201 rfl (k' := 7) rfl ?_
    refine zh zJ_201 (i := (2, 0, 0, 0)) rfl rfl (k' := 8) (lo' := [(0, .ref a), (1, .int u), (2, .int v)]) (st' := [.ref a, .ref b]) (h' := h) rfl ?_
    refine zg10 H zJ_201 rfl (k' := 9) rfl (fun x4 ex4 => ?_)
    refine zlb H zJ_201 rfl (k' := 10) rfl (P) ex4 (by omega) (fun c5 => ?_)
    refine zh zJ_201 (i := (1, 1, 0, 0)) rfl rfl (k' := 11) (lo' := [(0, .ref a), (1, .int u), (2, .int v)]) (st' := [.int u, .int c5]) (h' := h) rfl ?_
    refine zh_icmp zJ_201 (a := 21) (b := 2) (z := 0) rfl (fun hc6 => ?_) (fun hc6 => ?_)
    · refine zh zJ_201 (i := (0, 0, 0, 0)) rfl rfl (k' := 22) (lo' := [(0, .ref a), (1, .int u), (2, .int v)]) (st' := [.int (Int32.ofInt (0))]) (h' := h) rfl ?_
      refine zh_iret zJ_201 (a := 0) (b := 0) (z := 0) rfl (Or.inr ⟨rfl, Or.inl rfl⟩) ?_
      exact ⟨_, rfl, rfl, rfl, rfl, _, rfl, Or.inl rfl⟩
    · refine zh zJ_201 (i := (2, 0, 0, 0)) rfl rfl (k' := 13) (lo' := [(0, .ref a), (1, .int u), (2, .int v)]) (st' := [.ref a]) (h' := h) rfl ?_
      refine zg8 H zJ_201 rfl (k' := 14) rfl ?_
      refine zh zJ_201 (i := (2, 0, 0, 0)) rfl rfl (k' := 15) (lo' := [(0, .ref a), (1, .int u), (2, .int v)]) (st' := [.ref a, .ref b]) (h' := h) rfl ?_
      refine zg10 H zJ_201 rfl (k' := 16) rfl (fun x7 ex7 => ?_)
      refine zlb H zJ_201 rfl (k' := 17) rfl (P) ex7 (by omega) (fun c8 => ?_)
      refine zh zJ_201 (i := (1, 2, 0, 0)) rfl rfl (k' := 18) (lo' := [(0, .ref a), (1, .int u), (2, .int v)]) (st' := [.int v, .int c8]) (h' := h) rfl ?_
      refine zh_icmp zJ_201 (a := 21) (b := 4) (z := 0) rfl (fun hc9 => ?_) (fun hc9 => ?_)
      · refine zh zJ_201 (i := (0, 0, 0, 0)) rfl rfl (k' := 22) (lo' := [(0, .ref a), (1, .int u), (2, .int v)]) (st' := [.int (Int32.ofInt (0))]) (h' := h) rfl ?_
        refine zh_iret zJ_201 (a := 0) (b := 0) (z := 0) rfl (Or.inr ⟨rfl, Or.inl rfl⟩) ?_
        exact ⟨_, rfl, rfl, rfl, rfl, _, rfl, Or.inl rfl⟩
      · refine zh zJ_201 (i := (0, 0, 0, 1)) rfl rfl (k' := 20) (lo' := [(0, .ref a), (1, .int u), (2, .int v)]) (st' := [.int (Int32.ofInt (1))]) (h' := h) rfl ?_
        refine zh zJ_201 (i := (30, 22, 0, 0)) rfl rfl (k' := 22) (lo' := [(0, .ref a), (1, .int u), (2, .int v)]) (st' := [.int (Int32.ofInt (1))]) (h' := h) rfl ?_
        refine zh_iret zJ_201 (a := 0) (b := 0) (z := 0) rfl (Or.inr ⟨rfl, Or.inr rfl⟩) ?_
        exact ⟨_, rfl, rfl, rfl, rfl, _, rfl, Or.inr ⟨rfl, hlt⟩⟩
theorem zJ_202 : zJ3 202 z_m202 z_c202 z_h202 := ⟨rfl, rfl, rfl⟩
set_option maxRecDepth 100000 in
theorem zLp_202 {sx : zX} {ty : List Nat} {h0 : zH} {a w b E : Nat} {D S d P0 : Nat} {g : Nat → Int32} (hd : 2 ≤ d) : ∀ (r P Q : Nat) (h : zH), P + r = 400 → P0 ≤ P → zPS ty h0 a w b E P Q D S g h → z_ok sx d 202 0 [(0, .ref a)] [] h (zRq (fun v h' => v = none ∧ ∃ P', P0 ≤ P' ∧ zPS ty h0 a w b E P' P' D S g h'))
  | r, P, Q, h, hr, hP, H => by
    obtain ⟨bE, bP, bQ, bD, bS⟩ := H.bd
    refine zh zJ_202 (i := (2, 0, 0, 0)) rfl rfl (k' := 1) (lo' := [(0, .ref a)]) (st' := [.ref a]) (h' := h) rfl ?_
    refine zh zJ_202 (i := (0, 0, 0, 32)) rfl rfl (k' := 2) (lo' := [(0, .ref a)]) (st' := [.int (Int32.ofInt (32)), .ref a]) (h' := h) rfl ?_
    refine zh zJ_202 (i := (0, 0, 0, 32)) rfl rfl (k' := 3) (lo' := [(0, .ref a)]) (st' := [.int (Int32.ofInt (32)), .int (Int32.ofInt (32)), .ref a]) (h' := h) rfl ?_
    refine zcl (xs := [.int (Int32.ofInt (32)), .int (Int32.ofInt (32))]) (rest := []) H zJ_202 rfl (k' := 4) rfl (by omega) rfl rfl (Nat.le_of_ble_eq_true rfl) (M' := z_m201) rfl (Nat.le_of_ble_eq_true rfl) (zS_201 H _ _) (fun v h10 q => ?_)
    obtain ⟨rfl, c, rfl, hc⟩ := q
    show z_ok sx d 202 4 [(0, .ref a)] [.int c] h10 _
    refine zh_if zJ_202 (a := 12) (b := 0) (z := 0) rfl (fun hc11 => ?_) (fun hc11 => ?_)
    · refine zh zJ_202 (i := (2, 0, 0, 0)) rfl rfl (k' := 13) (lo' := [(0, .ref a)]) (st' := [.ref a]) (h' := h10) rfl ?_
      refine zh zJ_202 (i := (2, 0, 0, 0)) rfl rfl (k' := 14) (lo' := [(0, .ref a)]) (st' := [.ref a, .ref a]) (h' := h10) rfl ?_
      refine zg10 H zJ_202 rfl (k' := 15) rfl (fun x12 ex12 => ?_)
      refine zp12 H zJ_202 rfl (k' := 16) rfl (P) ex12 bP (fun h13 Hh13 => ?_)
      refine zh_vret zJ_202 (a := 0) (b := 0) (z := 0) rfl ?_
      exact ⟨_, rfl, rfl, rfl, rfl, P, hP, Hh13⟩
    · have hlt : P < E := (hc.resolve_left (fun e => hc11 (by rw [e]; rfl))).2
      refine zh zJ_202 (i := (2, 0, 0, 0)) rfl rfl (k' := 6) (lo' := [(0, .ref a)]) (st' := [.ref a]) (h' := h10) rfl ?_
      refine zh zJ_202 (i := (27, 0, 0, 0)) rfl rfl (k' := 7) (lo' := [(0, .ref a)]) (st' := [.ref a, .ref a]) (h' := h10) rfl ?_
      refine zg10 H zJ_202 rfl (k' := 8) rfl (fun x14 ex14 => ?_)
      refine zh zJ_202 (i := (0, 0, 0, 1)) rfl rfl (k' := 9) (lo' := [(0, .ref a)]) (st' := [.int (Int32.ofInt (1)), .int x14, .ref a]) (h' := h10) rfl ?_
      refine zh zJ_202 (i := (8, 0, 0, 0)) rfl rfl (k' := 10) (lo' := [(0, .ref a)]) (st' := [.int (x14 + (Int32.ofInt (1))), .ref a]) (h' := h10) rfl ?_
      refine zp10 H zJ_202 rfl (k' := 11) rfl (P + 1) (by rw [zI_add ex14 (zI_c (by decide) (by decide)) (by omega) (by omega)]; omega) (by omega) (fun h15 Hh15 => ?_)
      refine zh zJ_202 (i := (30, 0, 0, 0)) rfl rfl (k' := 0) (lo' := [(0, .ref a)]) (st' := []) (h' := h15) rfl ?_
      obtain ⟨r, rfl⟩ : ∃ r', r = r' + 1 := ⟨r - 1, by omega⟩
      exact zLp_202 hd r (P + 1) Q _ (by omega) (by omega) Hh15
theorem zS_202 {sx : zX} {ty : List Nat} {h0 : zH} {a w b E : Nat} {P Q D S d : Nat} {g : Nat → Int32} {h : zH} (hd : 2 ≤ d) (H : zPS ty h0 a w b E P Q D S g h) : z_ok sx d 202 0 (lv_args 0 [.ref a]) [] h (zRq (fun v h' => v = none ∧ ∃ P', P ≤ P' ∧ zPS ty h0 a w b E P' P' D S g h')) :=
  zLp_202 hd (400 - P) P Q h (by have := H.bd; omega) (Nat.le_refl _) H
theorem zJ_203 : zJ3 203 z_m203 z_c203 z_h203 := ⟨rfl, rfl, rfl⟩
set_option maxRecDepth 100000 in
theorem zLp_203 {sx : zX} {ty : List Nat} {h0 : zH} {a w b E : Nat} {Q D S d : Nat} {g : Nat → Int32} (hd : 2 ≤ d) : ∀ (r P : Nat) (h : zH), P + r = 400 → Q ≤ P → zPS ty h0 a w b E P Q D S g h → z_ok sx d 203 2 [(0, .ref a)] [] h (zRq (fun v h' => v = none ∧ ∃ P', Q ≤ P' ∧ zPS ty h0 a w b E P' Q D S g h'))
  | r, P, h, hr, hP, H => by
    obtain ⟨bE, bP, bQ, bD, bS⟩ := H.bd
    refine zh zJ_203 (i := (2, 0, 0, 0)) rfl rfl (k' := 3) (lo' := [(0, .ref a)]) (st' := [.ref a]) (h' := h) rfl ?_
    refine zh zJ_203 (i := (0, 0, 0, 97)) rfl rfl (k' := 4) (lo' := [(0, .ref a)]) (st' := [.int (Int32.ofInt (97)), .ref a]) (h' := h) rfl ?_
    refine zh zJ_203 (i := (0, 0, 0, 122)) rfl rfl (k' := 5) (lo' := [(0, .ref a)]) (st' := [.int (Int32.ofInt (122)), .int (Int32.ofInt (97)), .ref a]) (h' := h) rfl ?_
    refine zcl (xs := [.int (Int32.ofInt (122)), .int (Int32.ofInt (97))]) (rest := []) H zJ_203 rfl (k' := 6) rfl (by omega) rfl rfl (Nat.le_of_ble_eq_true rfl) (M' := z_m201) rfl (Nat.le_of_ble_eq_true rfl) (zS_201 H _ _) (fun v h16 q => ?_)
    obtain ⟨rfl, c, rfl, hc⟩ := q
    show z_ok sx d 203 6 [(0, .ref a)] [.int c] h16 _
    refine zh_if zJ_203 (a := 14) (b := 0) (z := 0) rfl (fun hc17 => ?_) (fun hc17 => ?_)
    · refine zh_vret zJ_203 (a := 0) (b := 0) (z := 0) rfl ?_
      exact ⟨_, rfl, rfl, rfl, rfl, P, hP, H⟩
    · have hlt : P < E := (hc.resolve_left (fun e => hc17 (by rw [e]; rfl))).2
      refine zh zJ_203 (i := (2, 0, 0, 0)) rfl rfl (k' := 8) (lo' := [(0, .ref a)]) (st' := [.ref a]) (h' := h16) rfl ?_
      refine zh zJ_203 (i := (27, 0, 0, 0)) rfl rfl (k' := 9) (lo' := [(0, .ref a)]) (st' := [.ref a, .ref a]) (h' := h16) rfl ?_
      refine zg10 H zJ_203 rfl (k' := 10) rfl (fun x18 ex18 => ?_)
      refine zh zJ_203 (i := (0, 0, 0, 1)) rfl rfl (k' := 11) (lo' := [(0, .ref a)]) (st' := [.int (Int32.ofInt (1)), .int x18, .ref a]) (h' := h16) rfl ?_
      refine zh zJ_203 (i := (8, 0, 0, 0)) rfl rfl (k' := 12) (lo' := [(0, .ref a)]) (st' := [.int (x18 + (Int32.ofInt (1))), .ref a]) (h' := h16) rfl ?_
      refine zp10 H zJ_203 rfl (k' := 13) rfl (P + 1) (by rw [zI_add ex18 (zI_c (by decide) (by decide)) (by omega) (by omega)]; omega) (by omega) (fun h19 Hh19 => ?_)
      refine zh zJ_203 (i := (30, 2, 0, 0)) rfl rfl (k' := 2) (lo' := [(0, .ref a)]) (st' := []) (h' := h19) rfl ?_
      obtain ⟨r, rfl⟩ : ∃ r', r = r' + 1 := ⟨r - 1, by omega⟩
      exact zLp_203 hd r (P + 1) _ (by omega) (by omega) Hh19
set_option maxRecDepth 100000 in
theorem zS_203 {sx : zX} {ty : List Nat} {h0 : zH} {a w b E : Nat} {P Q D S d : Nat} {g : Nat → Int32} {h : zH} (hd : 3 ≤ d) (H : zPS ty h0 a w b E P Q D S g h) : z_ok sx d 203 0 (lv_args 0 [.ref a]) [] h (zRq (fun v h' => v = none ∧ ∃ P' Q', P ≤ Q' ∧ Q' ≤ P' ∧ zPS ty h0 a w b E P' Q' D S g h')) := by
  show z_ok sx d 203 0 [(0, .ref a)] [] h _
  refine zh zJ_203 (i := (2, 0, 0, 0)) rfl rfl (k' := 1) (lo' := [(0, .ref a)]) (st' := [.ref a]) (h' := h) rfl ?_
  refine zcl (xs := []) (rest := []) H zJ_203 rfl (k' := 2) rfl (by omega) rfl rfl (Nat.le_of_ble_eq_true rfl) (M' := z_m202) rfl (Nat.le_of_ble_eq_true rfl) (zS_202 (by omega) H) (fun v h20 q => ?_)
  obtain ⟨rfl, P1, hP1, H1⟩ := q
  show z_ok sx d 203 2 [(0, .ref a)] [] h20 _
  refine z_ok.imp (zLp_203 (by omega) (400 - P1) P1 _ (by have := H1.bd; omega) (Nat.le_refl _) H1) (fun o h' x y q => ?_)
  obtain ⟨v, rfl, rfl, rfl, rfl, P', h1, h2⟩ := q
  exact ⟨_, rfl, rfl, rfl, rfl, P', P1, hP1, h1, h2⟩
set_option maxRecDepth 100000 in
theorem zS_204 {sx : zX} {ty : List Nat} {h0 : zH} {a w b E : Nat} {P Q D S d t : Nat} {g : Nat → Int32} {h : zH} {q : String × Nat × String × List Int32} (hd : 8 ≤ d) (hq : z_strs[t]? = some q) (hn : q.2.2.2.length ≤ 100) (hn1 : 1 ≤ q.2.2.2.length) (H : zPS ty h0 a w b E P Q D S g h) : z_ok sx d 204 0 (lv_args 0 [.ref a, .ref (zB + t)]) [] h (zRq (fun r h' => h' = h ∧ ∃ c : Int32, r = some (.int c) ∧ (c = 0 ∨ (c = 1 ∧ Q + 1 ≤ P)))) := by
  obtain ⟨bE, bP, bQ, bD, bS⟩ := H.bd
  show z_ok sx d 204 0 [(0, .ref a), (1, .ref (zB + t))] [] h _
  refine zh zJ_204 (i := (2, 0, 0, 0)) rfl rfl (k' := 1) (lo' := [(0, .ref a), (1, .ref (zB + t))]) (st' := [.ref a]) (h' := h) rfl ?_
  refine zg10 H zJ_204 rfl (k' := 2) rfl (fun x21 ex21 => ?_)
  refine zh zJ_204 (i := (2, 0, 0, 0)) rfl rfl (k' := 3) (lo' := [(0, .ref a), (1, .ref (zB + t))]) (st' := [.ref a, .int x21]) (h' := h) rfl ?_
  refine zg12 H zJ_204 rfl (k' := 4) rfl (fun x22 ex22 => ?_)
  refine zh zJ_204 (i := (9, 0, 0, 0)) rfl rfl (k' := 5) (lo' := [(0, .ref a), (1, .ref (zB + t))]) (st' := [.int (x21 - x22)]) (h' := h) rfl ?_
  refine zh zJ_204 (i := (2, 1, 0, 0)) rfl rfl (k' := 6) (lo' := [(0, .ref a), (1, .ref (zB + t))]) (st' := [.ref (zB + t), .int (x21 - x22)]) (h' := h) rfl ?_
  refine zh_slen zJ_204 (a := 0) (b := 0) (z := 0) rfl (k' := 7) rfl (by omega) (Nat.le_of_ble_eq_true rfl) hq rfl ?_
  refine zh_icmp zJ_204 (a := 10) (b := 1) (z := 0) rfl (fun hc23 => ?_) (fun hc23 => ?_)
  · refine zh zJ_204 (i := (0, 0, 0, 0)) rfl rfl (k' := 11) (lo' := [(0, .ref a), (1, .ref (zB + t))]) (st' := [.int (Int32.ofInt (0))]) (h' := h) rfl ?_
    refine zh zJ_204 (i := (4, 2, 0, 0)) rfl rfl (k' := 12) (lo' := [(2, .int (Int32.ofInt (0))), (0, .ref a), (1, .ref (zB + t))]) (st' := []) (h' := h) rfl ?_
    refine zh zJ_204 (i := (0, 0, 0, 0)) rfl rfl (k' := 13) (lo' := [(2, .int (Int32.ofInt (0))), (0, .ref a), (1, .ref (zB + t))]) (st' := [.int (Int32.ofInt (0))]) (h' := h) rfl ?_
    refine zh zJ_204 (i := (4, 3, 0, 0)) rfl rfl (k' := 14) (lo' := [(3, .int (Int32.ofInt (0))), (2, .int (Int32.ofInt (0))), (0, .ref a), (1, .ref (zB + t))]) (st' := []) (h' := h) rfl ?_
    refine zh zJ_204 (i := (1, 2, 0, 0)) rfl rfl (k' := 15) (lo' := [(3, .int (Int32.ofInt (0))), (2, .int (Int32.ofInt (0))), (0, .ref a), (1, .ref (zB + t))]) (st' := [.int (Int32.ofInt (0))]) (h' := h) rfl ?_
    refine zh_if zJ_204 (a := 37) (b := 0) (z := 0) rfl (fun hc24 => ?_) (fun hc24 => ?_)
    · refine zh zJ_204 (i := (1, 2, 0, 0)) rfl rfl (k' := 38) (lo' := [(3, .int (Int32.ofInt (0))), (2, .int (Int32.ofInt (0))), (0, .ref a), (1, .ref (zB + t))]) (st' := [.int (Int32.ofInt (0))]) (h' := h) rfl ?_
      refine zh_iret zJ_204 (a := 0) (b := 0) (z := 0) rfl (Or.inr ⟨rfl, Or.inl rfl⟩) ?_
      exact ⟨_, rfl, rfl, rfl, rfl, _, rfl, Or.inl rfl⟩
    · exact absurd (show z_cmp 0 (Int32.ofInt (0)) 0 = true from rfl) hc24
  · refine zh zJ_204 (i := (0, 0, 0, 1)) rfl rfl (k' := 9) (lo' := [(0, .ref a), (1, .ref (zB + t))]) (st' := [.int (Int32.ofInt (1))]) (h' := h) rfl ?_
    refine zh zJ_204 (i := (30, 11, 0, 0)) rfl rfl (k' := 11) (lo' := [(0, .ref a), (1, .ref (zB + t))]) (st' := [.int (Int32.ofInt (1))]) (h' := h) rfl ?_
    refine zh zJ_204 (i := (4, 2, 0, 0)) rfl rfl (k' := 12) (lo' := [(2, .int (Int32.ofInt (1))), (0, .ref a), (1, .ref (zB + t))]) (st' := []) (h' := h) rfl ?_
    refine zh zJ_204 (i := (0, 0, 0, 0)) rfl rfl (k' := 13) (lo' := [(2, .int (Int32.ofInt (1))), (0, .ref a), (1, .ref (zB + t))]) (st' := [.int (Int32.ofInt (0))]) (h' := h) rfl ?_
    refine zh zJ_204 (i := (4, 3, 0, 0)) rfl rfl (k' := 14) (lo' := [(3, .int (Int32.ofInt (0))), (2, .int (Int32.ofInt (1))), (0, .ref a), (1, .ref (zB + t))]) (st' := []) (h' := h) rfl ?_
    have hh : (x21 - x22).toInt = (Int32.ofNat q.2.2.2.length).toInt := by
      by_cases hh : (x21 - x22).toInt = (Int32.ofNat q.2.2.2.length).toInt
      · exact hh
      · exact absurd (zcmp_ne.mpr hh) hc23
    rw [zI_sub ex21 ex22 (by omega) (by omega), zofNat (by omega)] at hh
    obtain ⟨T, -, -, ha, hw, hb, hg, fs, he, hl, f1, f8, ⟨x11, g11, e11⟩, ⟨x10, g10, e10⟩, ⟨x12, g12, e12⟩, -⟩ := H
    obtain ⟨f, hf⟩ := zcell2 (n := 400) T hb rfl rfl
    exact zLp_204 hd hq hn he f8 g12 (by omega) (by omega) hf (fun c hc => ⟨_, rfl, rfl, rfl, rfl, c, rfl, hc.imp id (fun e => ⟨e, by omega⟩)⟩) _ 0 _ _ (Nat.zero_add _) rfl (Or.inr ⟨rfl, by omega⟩)
theorem zJ_205 : zJ3 205 z_m205 z_c205 z_h205 := ⟨rfl, rfl, rfl⟩
set_option maxRecDepth 100000 in
theorem zS_205 {sx : zX} {ty : List Nat} {h0 : zH} {a w b E : Nat} {P Q D S d t : Nat} {g : Nat → Int32} {h : zH} {q : String × Nat × String × List Int32} (hd : 9 ≤ d) (hq : z_strs[t]? = some q) (hn : q.2.2.2.length ≤ 100) (hn1 : 1 ≤ q.2.2.2.length) (H : zPS ty h0 a w b E P Q D S g h) : z_ok sx d 205 0 (lv_args 0 [.ref a, .ref (zB + t)]) [] h (zRq (zLk ty h0 a w b E P D S g)) := by
  show z_ok sx d 205 0 [(0, .ref a), (1, .ref (zB + t))] [] h _
  refine zh zJ_205 (i := (2, 0, 0, 0)) rfl rfl (k' := 1) (lo' := [(0, .ref a), (1, .ref (zB + t))]) (st' := [.ref a]) (h' := h) rfl ?_
  refine zcl (xs := []) (rest := []) H zJ_205 rfl (k' := 2) rfl (by omega) rfl rfl (Nat.le_of_ble_eq_true rfl) (M' := z_m203) rfl (Nat.le_of_ble_eq_true rfl) (zS_203 (by omega) H) (fun v h25 q => ?_)
  obtain ⟨rfl, P1, Q1, h1, h2, H1⟩ := q
  show z_ok sx d 205 2 [(0, .ref a), (1, .ref (zB + t))] [] h25 _
  refine zh zJ_205 (i := (2, 0, 0, 0)) rfl rfl (k' := 3) (lo' := [(0, .ref a), (1, .ref (zB + t))]) (st' := [.ref a]) (h' := h25) rfl ?_
  refine zh zJ_205 (i := (2, 1, 0, 0)) rfl rfl (k' := 4) (lo' := [(0, .ref a), (1, .ref (zB + t))]) (st' := [.ref (zB + t), .ref a]) (h' := h25) rfl ?_
  refine zcl (xs := [.ref (zB + t)]) (rest := []) H1 zJ_205 rfl (k' := 5) rfl (by omega) rfl rfl (Nat.le_of_ble_eq_true rfl) (M' := z_m204) rfl (Nat.le_of_ble_eq_true rfl) (zS_204 (by omega) hq hn hn1 H1) (fun v h26 q => ?_)
  obtain ⟨rfl, c, rfl, hc⟩ := q
  show z_ok sx d 205 5 [(0, .ref a), (1, .ref (zB + t))] [.int c] h26 _
  refine zh_if zJ_205 (a := 8) (b := 0) (z := 0) rfl (fun hc27 => ?_) (fun hc27 => ?_)
  · refine zh zJ_205 (i := (2, 0, 0, 0)) rfl rfl (k' := 9) (lo' := [(0, .ref a), (1, .ref (zB + t))]) (st' := [.ref a]) (h' := h26) rfl ?_
    refine zh zJ_205 (i := (2, 0, 0, 0)) rfl rfl (k' := 10) (lo' := [(0, .ref a), (1, .ref (zB + t))]) (st' := [.ref a, .ref a]) (h' := h26) rfl ?_
    refine zg12 H1 zJ_205 rfl (k' := 11) rfl (fun x28 ex28 => ?_)
    refine zp10 H1 zJ_205 rfl (k' := 12) rfl (Q1) ex28 (by have := H1.bd; omega) (fun h29 Hh29 => ?_)
    refine zh zJ_205 (i := (0, 0, 0, 0)) rfl rfl (k' := 13) (lo' := [(0, .ref a), (1, .ref (zB + t))]) (st' := [.int (Int32.ofInt (0))]) (h' := h29) rfl ?_
    refine zh_iret zJ_205 (a := 0) (b := 0) (z := 0) rfl (Or.inr ⟨rfl, Or.inl rfl⟩) ?_
    exact ⟨_, rfl, rfl, rfl, _, Q1, Q1, rfl, Hh29, h1, Or.inl rfl⟩
  · have hlt := (hc.resolve_left (fun e => hc27 (by rw [e]; rfl))).2
    refine zh zJ_205 (i := (0, 0, 0, 1)) rfl rfl (k' := 7) (lo' := [(0, .ref a), (1, .ref (zB + t))]) (st' := [.int (Int32.ofInt (1))]) (h' := h26) rfl ?_
    refine zh_iret zJ_205 (a := 0) (b := 0) (z := 0) rfl (Or.inr ⟨rfl, Or.inr rfl⟩) ?_
    exact ⟨_, rfl, rfl, rfl, _, P1, Q1, rfl, H1, by omega, Or.inr ⟨rfl, by omega⟩⟩
theorem zJ_206 : zJ3 206 z_m206 z_c206 z_h206 := ⟨rfl, rfl, rfl⟩
set_option maxRecDepth 100000 in
theorem zS_206 {sx : zX} {ty : List Nat} {h0 : zH} {a w b E : Nat} {P Q D S d : Nat} {g : Nat → Int32} {h : zH} (hd : 3 ≤ d) (u : Int32) (H : zPS ty h0 a w b E P Q D S g h) : z_ok sx d 206 0 (lv_args 0 [.ref a, .int u]) [] h (zRq (zLk ty h0 a w b E P D S g)) := by
  show z_ok sx d 206 0 [(0, .ref a), (1, .int u)] [] h _
  refine zh zJ_206 (i := (2, 0, 0, 0)) rfl rfl (k' := 1) (lo' := [(0, .ref a), (1, .int u)]) (st' := [.ref a]) (h' := h) rfl ?_
  refine zcl (xs := []) (rest := []) H zJ_206 rfl (k' := 2) rfl (by omega) rfl rfl (Nat.le_of_ble_eq_true rfl) (M' := z_m202) rfl (Nat.le_of_ble_eq_true rfl) (zS_202 (by omega) H) (fun v h30 q => ?_)
  obtain ⟨rfl, P1, h1, H1⟩ := q
  obtain ⟨bE, bP, bQ, bD, bS⟩ := H1.bd
  show z_ok sx d 206 2 [(0, .ref a), (1, .int u)] [] h30 _
  refine zh zJ_206 (i := (2, 0, 0, 0)) rfl rfl (k' := 3) (lo' := [(0, .ref a), (1, .int u)]) (st' := [.ref a]) (h' := h30) rfl ?_
  refine zh zJ_206 (i := (1, 1, 0, 0)) rfl rfl (k' := 4) (lo' := [(0, .ref a), (1, .int u)]) (st' := [.int u, .ref a]) (h' := h30) rfl ?_
  refine zh zJ_206 (i := (1, 1, 0, 0)) rfl rfl (k' := 5) (lo' := [(0, .ref a), (1, .int u)]) (st' := [.int u, .int u, .ref a]) (h' := h30) rfl ?_
  refine zcl (xs := [.int u, .int u]) (rest := []) H1 zJ_206 rfl (k' := 6) rfl (by omega) rfl rfl (Nat.le_of_ble_eq_true rfl) (M' := z_m201) rfl (Nat.le_of_ble_eq_true rfl) (zS_201 H1 _ _) (fun v h31 q => ?_)
  obtain ⟨rfl, c, rfl, hc⟩ := q
  show z_ok sx d 206 6 [(0, .ref a), (1, .int u)] [.int c] h31 _
  refine zh_if zJ_206 (a := 9) (b := 1) (z := 0) rfl (fun hc32 => ?_) (fun hc32 => ?_)
  · have hlt : P1 < E := (hc.resolve_left (fun e => zcmp_ne.mp hc32 (by rw [e]))).2
    refine zh zJ_206 (i := (2, 0, 0, 0)) rfl rfl (k' := 10) (lo' := [(0, .ref a), (1, .int u)]) (st' := [.ref a]) (h' := h31) rfl ?_
    refine zh zJ_206 (i := (27, 0, 0, 0)) rfl rfl (k' := 11) (lo' := [(0, .ref a), (1, .int u)]) (st' := [.ref a, .ref a]) (h' := h31) rfl ?_
    refine zg10 H1 zJ_206 rfl (k' := 12) rfl (fun x33 ex33 => ?_)
    refine zh zJ_206 (i := (0, 0, 0, 1)) rfl rfl (k' := 13) (lo' := [(0, .ref a), (1, .int u)]) (st' := [.int (Int32.ofInt (1)), .int x33, .ref a]) (h' := h31) rfl ?_
    refine zh zJ_206 (i := (8, 0, 0, 0)) rfl rfl (k' := 14) (lo' := [(0, .ref a), (1, .int u)]) (st' := [.int (x33 + (Int32.ofInt (1))), .ref a]) (h' := h31) rfl ?_
    refine zp10 H1 zJ_206 rfl (k' := 15) rfl (P1 + 1) (by rw [zI_add ex33 (zI_c (by decide) (by decide)) (by omega) (by omega)]; omega) (by omega) (fun h34 Hh34 => ?_)
    refine zh zJ_206 (i := (0, 0, 0, 1)) rfl rfl (k' := 16) (lo' := [(0, .ref a), (1, .int u)]) (st' := [.int (Int32.ofInt (1))]) (h' := h34) rfl ?_
    refine zh_iret zJ_206 (a := 0) (b := 0) (z := 0) rfl (Or.inr ⟨rfl, Or.inr rfl⟩) ?_
    exact ⟨_, rfl, rfl, rfl, _, P1 + 1, P1, rfl, Hh34, by omega, Or.inr ⟨rfl, by omega⟩⟩
  · refine zh zJ_206 (i := (0, 0, 0, 0)) rfl rfl (k' := 8) (lo' := [(0, .ref a), (1, .int u)]) (st' := [.int (Int32.ofInt (0))]) (h' := h31) rfl ?_
    refine zh_iret zJ_206 (a := 0) (b := 0) (z := 0) rfl (Or.inr ⟨rfl, Or.inl rfl⟩) ?_
    exact ⟨_, rfl, rfl, rfl, _, P1, P1, rfl, H1, h1, Or.inl rfl⟩
theorem zJ_207 : zJ3 207 z_m207 z_c207 z_h207 := ⟨rfl, rfl, rfl⟩
set_option maxRecDepth 100000 in
theorem zLp_207 {sx : zX} {ty : List Nat} {h0 : zH} {a w b E : Nat} {Q D S d P0 : Nat} {g : Nat → Int32} {u v : Int32} (hd : 2 ≤ d ∧ P0 ≤ Q) : ∀ (r P : Nat) (m : Int32) (h : zH), P + r = 400 → Q ≤ P → zPS ty h0 a w b E P Q D S g h → z_ok sx d 207 4 [(3, .int m), (0, .ref a), (1, .int u), (2, .int v)] [] h (zRq (fun r h' => ∃ (c : Int32) (P' Q' : Nat), r = some (.int c) ∧ zPS ty h0 a w b E P' Q' D S g h' ∧ P0 ≤ P' ∧ (c.toInt < 0 ∨ P0 + 1 ≤ P')))
  | r, P, m, h, hr, hP, H => by
    obtain ⟨bE, bP, bQ, bD, bS⟩ := H.bd
    have hd1 := hd.1
    have h00 := hd.2
    refine zh zJ_207 (i := (2, 0, 0, 0)) rfl rfl (k' := 5) (lo' := [(3, .int m), (0, .ref a), (1, .int u), (2, .int v)]) (st' := [.ref a]) (h' := h) rfl ?_
    refine zh zJ_207 (i := (0, 0, 0, 48)) rfl rfl (k' := 6) (lo' := [(3, .int m), (0, .ref a), (1, .int u), (2, .int v)]) (st' := [.int (Int32.ofInt (48)), .ref a]) (h' := h) rfl ?_
    refine zh zJ_207 (i := (0, 0, 0, 57)) rfl rfl (k' := 7) (lo' := [(3, .int m), (0, .ref a), (1, .int u), (2, .int v)]) (st' := [.int (Int32.ofInt (57)), .int (Int32.ofInt (48)), .ref a]) (h' := h) rfl ?_
    refine zcl (xs := [.int (Int32.ofInt (57)), .int (Int32.ofInt (48))]) (rest := []) H zJ_207 rfl (k' := 8) rfl (by omega) rfl rfl (Nat.le_of_ble_eq_true rfl) (M' := z_m201) rfl (Nat.le_of_ble_eq_true rfl) (zS_201 H _ _) (fun v h35 q => ?_)
    obtain ⟨rfl, c, rfl, hc⟩ := q
    show z_ok sx d 207 8 [(3, .int m), (0, .ref a), (1, .int u), (2, .int v)] [.int c] h35 _
    refine zh_if zJ_207 (a := 37) (b := 0) (z := 0) rfl (fun hc36 => ?_) (fun hc36 => ?_)
    · refine zh zJ_207 (i := (2, 0, 0, 0)) rfl rfl (k' := 38) (lo' := [(3, .int m), (0, .ref a), (1, .int u), (2, .int v)]) (st' := [.ref a]) (h' := h35) rfl ?_
      refine zg10 H zJ_207 rfl (k' := 39) rfl (fun x37 ex37 => ?_)
      refine zh zJ_207 (i := (2, 0, 0, 0)) rfl rfl (k' := 40) (lo' := [(3, .int m), (0, .ref a), (1, .int u), (2, .int v)]) (st' := [.ref a, .int x37]) (h' := h35) rfl ?_
      refine zg12 H zJ_207 rfl (k' := 41) rfl (fun x38 ex38 => ?_)
      refine zh_icmp zJ_207 (a := 55) (b := 0) (z := 0) rfl (fun hc39 => ?_) (fun hc39 => ?_)
      · refine zh zJ_207 (i := (0, 0, 0, -1)) rfl rfl (k' := 56) (lo' := [(3, .int m), (0, .ref a), (1, .int u), (2, .int v)]) (st' := [.int (Int32.ofInt (-1))]) (h' := h35) rfl ?_
        refine zh zJ_207 (i := (30, 58, 0, 0)) rfl rfl (k' := 58) (lo' := [(3, .int m), (0, .ref a), (1, .int u), (2, .int v)]) (st' := [.int (Int32.ofInt (-1))]) (h' := h35) rfl ?_
        refine zh_iret zJ_207 (a := 0) (b := 0) (z := 0) rfl (Or.inl rfl) ?_
        exact ⟨_, rfl, rfl, rfl, _, P, Q, rfl, H, by omega, Or.inl (by decide)⟩
      · have hne : Q < P := (by have := mt zcmp_eq.mpr hc39; omega)
        refine zh zJ_207 (i := (2, 0, 0, 0)) rfl rfl (k' := 43) (lo' := [(3, .int m), (0, .ref a), (1, .int u), (2, .int v)]) (st' := [.ref a]) (h' := h35) rfl ?_
        refine zg10 H zJ_207 rfl (k' := 44) rfl (fun x40 ex40 => ?_)
        refine zh zJ_207 (i := (2, 0, 0, 0)) rfl rfl (k' := 45) (lo' := [(3, .int m), (0, .ref a), (1, .int u), (2, .int v)]) (st' := [.ref a, .int x40]) (h' := h35) rfl ?_
        refine zg12 H zJ_207 rfl (k' := 46) rfl (fun x41 ex41 => ?_)
        refine zh zJ_207 (i := (9, 0, 0, 0)) rfl rfl (k' := 47) (lo' := [(3, .int m), (0, .ref a), (1, .int u), (2, .int v)]) (st' := [.int (x40 - x41)]) (h' := h35) rfl ?_
        refine zh zJ_207 (i := (0, 0, 0, 3)) rfl rfl (k' := 48) (lo' := [(3, .int m), (0, .ref a), (1, .int u), (2, .int v)]) (st' := [.int (Int32.ofInt (3)), .int (x40 - x41)]) (h' := h35) rfl ?_
        refine zh_icmp zJ_207 (a := 55) (b := 4) (z := 0) rfl (fun hc42 => ?_) (fun hc42 => ?_)
        · refine zh zJ_207 (i := (0, 0, 0, -1)) rfl rfl (k' := 56) (lo' := [(3, .int m), (0, .ref a), (1, .int u), (2, .int v)]) (st' := [.int (Int32.ofInt (-1))]) (h' := h35) rfl ?_
          refine zh zJ_207 (i := (30, 58, 0, 0)) rfl rfl (k' := 58) (lo' := [(3, .int m), (0, .ref a), (1, .int u), (2, .int v)]) (st' := [.int (Int32.ofInt (-1))]) (h' := h35) rfl ?_
          refine zh_iret zJ_207 (a := 0) (b := 0) (z := 0) rfl (Or.inl rfl) ?_
          exact ⟨_, rfl, rfl, rfl, _, P, Q, rfl, H, by omega, Or.inl (by decide)⟩
        · refine zh zJ_207 (i := (1, 3, 0, 0)) rfl rfl (k' := 50) (lo' := [(3, .int m), (0, .ref a), (1, .int u), (2, .int v)]) (st' := [.int m]) (h' := h35) rfl ?_
          refine zh zJ_207 (i := (1, 1, 0, 0)) rfl rfl (k' := 51) (lo' := [(3, .int m), (0, .ref a), (1, .int u), (2, .int v)]) (st' := [.int u, .int m]) (h' := h35) rfl ?_
          refine zh_icmp zJ_207 (a := 55) (b := 2) (z := 0) rfl (fun hc43 => ?_) (fun hc43 => ?_)
          · refine zh zJ_207 (i := (0, 0, 0, -1)) rfl rfl (k' := 56) (lo' := [(3, .int m), (0, .ref a), (1, .int u), (2, .int v)]) (st' := [.int (Int32.ofInt (-1))]) (h' := h35) rfl ?_
            refine zh zJ_207 (i := (30, 58, 0, 0)) rfl rfl (k' := 58) (lo' := [(3, .int m), (0, .ref a), (1, .int u), (2, .int v)]) (st' := [.int (Int32.ofInt (-1))]) (h' := h35) rfl ?_
            refine zh_iret zJ_207 (a := 0) (b := 0) (z := 0) rfl (Or.inl rfl) ?_
            exact ⟨_, rfl, rfl, rfl, _, P, Q, rfl, H, by omega, Or.inl (by decide)⟩
          · refine zh zJ_207 (i := (1, 3, 0, 0)) rfl rfl (k' := 53) (lo' := [(3, .int m), (0, .ref a), (1, .int u), (2, .int v)]) (st' := [.int m]) (h' := h35) rfl ?_
            refine zh zJ_207 (i := (1, 2, 0, 0)) rfl rfl (k' := 54) (lo' := [(3, .int m), (0, .ref a), (1, .int u), (2, .int v)]) (st' := [.int v, .int m]) (h' := h35) rfl ?_
            refine zh_icmp zJ_207 (a := 57) (b := 5) (z := 0) rfl (fun hc44 => ?_) (fun hc44 => ?_)
            · refine zh zJ_207 (i := (1, 3, 0, 0)) rfl rfl (k' := 58) (lo' := [(3, .int m), (0, .ref a), (1, .int u), (2, .int v)]) (st' := [.int m]) (h' := h35) rfl ?_
              refine zh_iret zJ_207 (a := 0) (b := 0) (z := 0) rfl (Or.inl rfl) ?_
              exact ⟨_, rfl, rfl, rfl, _, P, Q, rfl, H, by omega, Or.inr (by omega)⟩
            · refine zh zJ_207 (i := (0, 0, 0, -1)) rfl rfl (k' := 56) (lo' := [(3, .int m), (0, .ref a), (1, .int u), (2, .int v)]) (st' := [.int (Int32.ofInt (-1))]) (h' := h35) rfl ?_
              refine zh zJ_207 (i := (30, 58, 0, 0)) rfl rfl (k' := 58) (lo' := [(3, .int m), (0, .ref a), (1, .int u), (2, .int v)]) (st' := [.int (Int32.ofInt (-1))]) (h' := h35) rfl ?_
              refine zh_iret zJ_207 (a := 0) (b := 0) (z := 0) rfl (Or.inl rfl) ?_
              exact ⟨_, rfl, rfl, rfl, _, P, Q, rfl, H, by omega, Or.inl (by decide)⟩
    · have hlt : P < E := (hc.resolve_left (fun e => hc36 (by rw [e]; rfl))).2
      obtain ⟨r, rfl⟩ : ∃ r', r = r' + 1 := ⟨r - 1, by omega⟩
      refine zh zJ_207 (i := (2, 0, 0, 0)) rfl rfl (k' := 10) (lo' := [(3, .int m), (0, .ref a), (1, .int u), (2, .int v)]) (st' := [.ref a]) (h' := h35) rfl ?_
      refine zg10 H zJ_207 rfl (k' := 11) rfl (fun x45 ex45 => ?_)
      refine zh zJ_207 (i := (2, 0, 0, 0)) rfl rfl (k' := 12) (lo' := [(3, .int m), (0, .ref a), (1, .int u), (2, .int v)]) (st' := [.ref a, .int x45]) (h' := h35) rfl ?_
      refine zg12 H zJ_207 rfl (k' := 13) rfl (fun x46 ex46 => ?_)
      refine zh zJ_207 (i := (9, 0, 0, 0)) rfl rfl (k' := 14) (lo' := [(3, .int m), (0, .ref a), (1, .int u), (2, .int v)]) (st' := [.int (x45 - x46)]) (h' := h35) rfl ?_
      refine zh zJ_207 (i := (0, 0, 0, 3)) rfl rfl (k' := 15) (lo' := [(3, .int m), (0, .ref a), (1, .int u), (2, .int v)]) (st' := [.int (Int32.ofInt (3)), .int (x45 - x46)]) (h' := h35) rfl ?_
      refine zh_icmp zJ_207 (a := 28) (b := 3) (z := 0) rfl (fun hc47 => ?_) (fun hc47 => ?_)
      · refine zh zJ_207 (i := (1, 3, 0, 0)) rfl rfl (k' := 29) (lo' := [(3, .int m), (0, .ref a), (1, .int u), (2, .int v)]) (st' := [.int m]) (h' := h35) rfl ?_
        refine zh zJ_207 (i := (4, 3, 0, 0)) rfl rfl (k' := 30) (lo' := [(3, .int m), (0, .ref a), (1, .int u), (2, .int v)]) (st' := []) (h' := h35) rfl ?_
        refine zh zJ_207 (i := (2, 0, 0, 0)) rfl rfl (k' := 31) (lo' := [(3, .int m), (0, .ref a), (1, .int u), (2, .int v)]) (st' := [.ref a]) (h' := h35) rfl ?_
        refine zh zJ_207 (i := (27, 0, 0, 0)) rfl rfl (k' := 32) (lo' := [(3, .int m), (0, .ref a), (1, .int u), (2, .int v)]) (st' := [.ref a, .ref a]) (h' := h35) rfl ?_
        refine zg10 H zJ_207 rfl (k' := 33) rfl (fun x48 ex48 => ?_)
        refine zh zJ_207 (i := (0, 0, 0, 1)) rfl rfl (k' := 34) (lo' := [(3, .int m), (0, .ref a), (1, .int u), (2, .int v)]) (st' := [.int (Int32.ofInt (1)), .int x48, .ref a]) (h' := h35) rfl ?_
        refine zh zJ_207 (i := (8, 0, 0, 0)) rfl rfl (k' := 35) (lo' := [(3, .int m), (0, .ref a), (1, .int u), (2, .int v)]) (st' := [.int (x48 + (Int32.ofInt (1))), .ref a]) (h' := h35) rfl ?_
        refine zp10 H zJ_207 rfl (k' := 36) rfl (P + 1) (by rw [zI_add ex48 (zI_c (by decide) (by decide)) (by omega) (by omega)]; omega) (by omega) (fun h49 Hh49 => ?_)
        refine zh zJ_207 (i := (30, 4, 0, 0)) rfl rfl (k' := 4) (lo' := [(3, .int m), (0, .ref a), (1, .int u), (2, .int v)]) (st' := []) (h' := h49) rfl ?_
        exact zLp_207 hd r (P + 1) _ _ (by omega) (by omega) Hh49
      · refine zh zJ_207 (i := (0, 0, 0, 10)) rfl rfl (k' := 17) (lo' := [(3, .int m), (0, .ref a), (1, .int u), (2, .int v)]) (st' := [.int (Int32.ofInt (10))]) (h' := h35) rfl ?_
        refine zh zJ_207 (i := (1, 3, 0, 0)) rfl rfl (k' := 18) (lo' := [(3, .int m), (0, .ref a), (1, .int u), (2, .int v)]) (st' := [.int m, .int (Int32.ofInt (10))]) (h' := h35) rfl ?_
        refine zh zJ_207 (i := (10, 0, 0, 0)) rfl rfl (k' := 19) (lo' := [(3, .int m), (0, .ref a), (1, .int u), (2, .int v)]) (st' := [.int ((Int32.ofInt (10)) * m)]) (h' := h35) rfl ?_
        refine zh zJ_207 (i := (2, 0, 0, 0)) rfl rfl (k' := 20) (lo' := [(3, .int m), (0, .ref a), (1, .int u), (2, .int v)]) (st' := [.ref a, .int ((Int32.ofInt (10)) * m)]) (h' := h35) rfl ?_
        refine zg8 H zJ_207 rfl (k' := 21) rfl ?_
        refine zh zJ_207 (i := (2, 0, 0, 0)) rfl rfl (k' := 22) (lo' := [(3, .int m), (0, .ref a), (1, .int u), (2, .int v)]) (st' := [.ref a, .ref b, .int ((Int32.ofInt (10)) * m)]) (h' := h35) rfl ?_
        refine zg10 H zJ_207 rfl (k' := 23) rfl (fun x50 ex50 => ?_)
        refine zlb H zJ_207 rfl (k' := 24) rfl (P) ex50 (by omega) (fun c51 => ?_)
        refine zh zJ_207 (i := (8, 0, 0, 0)) rfl rfl (k' := 25) (lo' := [(3, .int m), (0, .ref a), (1, .int u), (2, .int v)]) (st' := [.int (((Int32.ofInt (10)) * m) + c51)]) (h' := h35) rfl ?_
        refine zh zJ_207 (i := (0, 0, 0, 48)) rfl rfl (k' := 26) (lo' := [(3, .int m), (0, .ref a), (1, .int u), (2, .int v)]) (st' := [.int (Int32.ofInt (48)), .int (((Int32.ofInt (10)) * m) + c51)]) (h' := h35) rfl ?_
        refine zh zJ_207 (i := (9, 0, 0, 0)) rfl rfl (k' := 27) (lo' := [(3, .int m), (0, .ref a), (1, .int u), (2, .int v)]) (st' := [.int ((((Int32.ofInt (10)) * m) + c51) - (Int32.ofInt (48)))]) (h' := h35) rfl ?_
        refine zh zJ_207 (i := (30, 29, 0, 0)) rfl rfl (k' := 29) (lo' := [(3, .int m), (0, .ref a), (1, .int u), (2, .int v)]) (st' := [.int ((((Int32.ofInt (10)) * m) + c51) - (Int32.ofInt (48)))]) (h' := h35) rfl ?_
        refine zh zJ_207 (i := (4, 3, 0, 0)) rfl rfl (k' := 30) (lo' := [(3, .int ((((Int32.ofInt (10)) * m) + c51) - (Int32.ofInt (48)))), (0, .ref a), (1, .int u), (2, .int v)]) (st' := []) (h' := h35) rfl ?_
        refine zh zJ_207 (i := (2, 0, 0, 0)) rfl rfl (k' := 31) (lo' := [(3, .int ((((Int32.ofInt (10)) * m) + c51) - (Int32.ofInt (48)))), (0, .ref a), (1, .int u), (2, .int v)]) (st' := [.ref a]) (h' := h35) rfl ?_
        refine zh zJ_207 (i := (27, 0, 0, 0)) rfl rfl (k' := 32) (lo' := [(3, .int ((((Int32.ofInt (10)) * m) + c51) - (Int32.ofInt (48)))), (0, .ref a), (1, .int u), (2, .int v)]) (st' := [.ref a, .ref a]) (h' := h35) rfl ?_
        refine zg10 H zJ_207 rfl (k' := 33) rfl (fun x52 ex52 => ?_)
        refine zh zJ_207 (i := (0, 0, 0, 1)) rfl rfl (k' := 34) (lo' := [(3, .int ((((Int32.ofInt (10)) * m) + c51) - (Int32.ofInt (48)))), (0, .ref a), (1, .int u), (2, .int v)]) (st' := [.int (Int32.ofInt (1)), .int x52, .ref a]) (h' := h35) rfl ?_
        refine zh zJ_207 (i := (8, 0, 0, 0)) rfl rfl (k' := 35) (lo' := [(3, .int ((((Int32.ofInt (10)) * m) + c51) - (Int32.ofInt (48)))), (0, .ref a), (1, .int u), (2, .int v)]) (st' := [.int (x52 + (Int32.ofInt (1))), .ref a]) (h' := h35) rfl ?_
        refine zp10 H zJ_207 rfl (k' := 36) rfl (P + 1) (by rw [zI_add ex52 (zI_c (by decide) (by decide)) (by omega) (by omega)]; omega) (by omega) (fun h53 Hh53 => ?_)
        refine zh zJ_207 (i := (30, 4, 0, 0)) rfl rfl (k' := 4) (lo' := [(3, .int ((((Int32.ofInt (10)) * m) + c51) - (Int32.ofInt (48)))), (0, .ref a), (1, .int u), (2, .int v)]) (st' := []) (h' := h53) rfl ?_
        exact zLp_207 hd r (P + 1) _ _ (by omega) (by omega) Hh53
set_option maxRecDepth 100000 in
theorem zS_207 {sx : zX} {ty : List Nat} {h0 : zH} {a w b E : Nat} {P Q D S d : Nat} {g : Nat → Int32} {h : zH} (hd : 3 ≤ d) (u v : Int32) (H : zPS ty h0 a w b E P Q D S g h) : z_ok sx d 207 0 (lv_args 0 [.ref a, .int u, .int v]) [] h (zRq (fun r h' => ∃ (c : Int32) (P' Q' : Nat), r = some (.int c) ∧ zPS ty h0 a w b E P' Q' D S g h' ∧ P ≤ P' ∧ (c.toInt < 0 ∨ P + 1 ≤ P'))) := by
  show z_ok sx d 207 0 [(0, .ref a), (1, .int u), (2, .int v)] [] h _
  refine zh zJ_207 (i := (2, 0, 0, 0)) rfl rfl (k' := 1) (lo' := [(0, .ref a), (1, .int u), (2, .int v)]) (st' := [.ref a]) (h' := h) rfl ?_
  refine zcl (xs := []) (rest := []) H zJ_207 rfl (k' := 2) rfl (by omega) rfl rfl (Nat.le_of_ble_eq_true rfl) (M' := z_m202) rfl (Nat.le_of_ble_eq_true rfl) (zS_202 (by omega) H) (fun v h54 q => ?_)
  obtain ⟨rfl, P1, h1, H1⟩ := q
  show z_ok sx d 207 2 [(0, .ref a), (1, .int u), (2, .int v)] [] h54 _
  refine zh zJ_207 (i := (0, 0, 0, 0)) rfl rfl (k' := 3) (lo' := [(0, .ref a), (1, .int u), (2, .int v)]) (st' := [.int (Int32.ofInt (0))]) (h' := h54) rfl ?_
  refine zh zJ_207 (i := (4, 3, 0, 0)) rfl rfl (k' := 4) (lo' := [(3, .int (Int32.ofInt (0))), (0, .ref a), (1, .int u), (2, .int v)]) (st' := []) (h' := h54) rfl ?_
  exact zLp_207 ⟨by omega, h1⟩ (400 - P1) P1 _ _ (by have := H1.bd; omega) (Nat.le_refl _) H1
theorem zJ_221 : zJ3 221 z_m221 z_c221 z_h221 := ⟨rfl, rfl, rfl⟩
set_option maxRecDepth 100000 in
theorem zS_221 {sx : zX} {ty : List Nat} {h0 : zH} {a w b E : Nat} {P Q D S d : Nat} {g : Nat → Int32} {h : zH} (u v : Int32) (hS : S < 400) (H : zPS ty h0 a w b E P Q D S g h) : z_ok sx d 221 0 (lv_args 0 [.ref a, .int u, .int v]) [] h (zRq (fun r h' => r = none ∧ zPS ty h0 a w b E P Q D (S + 1) (zEm g S u v) h')) := by
  show z_ok sx d 221 0 [(0, .ref a), (1, .int u), (2, .int v)] [] h _
  refine zh zJ_221 (i := (2, 0, 0, 0)) rfl rfl (k' := 1) (lo' := [(0, .ref a), (1, .int u), (2, .int v)]) (st' := [.ref a]) (h' := h) rfl ?_
  refine zg1 H zJ_221 rfl (k' := 2) rfl ?_
  refine zh zJ_221 (i := (0, 0, 0, 1286)) rfl rfl (k' := 3) (lo' := [(0, .ref a), (1, .int u), (2, .int v)]) (st' := [.int (Int32.ofInt (1286)), .ref w]) (h' := h) rfl ?_
  refine zh zJ_221 (i := (0, 0, 0, 2)) rfl rfl (k' := 4) (lo' := [(0, .ref a), (1, .int u), (2, .int v)]) (st' := [.int (Int32.ofInt (2)), .int (Int32.ofInt (1286)), .ref w]) (h' := h) rfl ?_
  refine zh zJ_221 (i := (2, 0, 0, 0)) rfl rfl (k' := 5) (lo' := [(0, .ref a), (1, .int u), (2, .int v)]) (st' := [.ref a, .int (Int32.ofInt (2)), .int (Int32.ofInt (1286)), .ref w]) (h' := h) rfl ?_
  refine zg16 H zJ_221 rfl (k' := 6) rfl (fun x55 ex55 => ?_)
  have k1 : (Int32.ofInt (1286) + Int32.ofInt (2) * x55).toInt = ((1286 + 2 * S : Nat) : Int) := by
    rw [zI_add (zI_c (by decide) (by decide)) (zI_mul (zI_c (by decide) (by decide)) ex55 (by omega) (by omega)) (by omega) (by omega)]
    omega
  refine zh zJ_221 (i := (10, 0, 0, 0)) rfl rfl (k' := 7) (lo' := [(0, .ref a), (1, .int u), (2, .int v)]) (st' := [.int ((Int32.ofInt (2)) * x55), .int (Int32.ofInt (1286)), .ref w]) (h' := h) rfl ?_
  refine zh zJ_221 (i := (8, 0, 0, 0)) rfl rfl (k' := 8) (lo' := [(0, .ref a), (1, .int u), (2, .int v)]) (st' := [.int ((Int32.ofInt (1286)) + ((Int32.ofInt (2)) * x55)), .ref w]) (h' := h) rfl ?_
  refine zh zJ_221 (i := (1, 1, 0, 0)) rfl rfl (k' := 9) (lo' := [(0, .ref a), (1, .int u), (2, .int v)]) (st' := [.int u, .int ((Int32.ofInt (1286)) + ((Int32.ofInt (2)) * x55)), .ref w]) (h' := h) rfl ?_
  refine zpw H zJ_221 rfl (k' := 10) rfl (1286 + 2 * S) k1 (by omega) (by omega) (fun h56 Hh56 => ?_)
  refine zh zJ_221 (i := (2, 0, 0, 0)) rfl rfl (k' := 11) (lo' := [(0, .ref a), (1, .int u), (2, .int v)]) (st' := [.ref a]) (h' := h56) rfl ?_
  refine zg1 Hh56 zJ_221 rfl (k' := 12) rfl ?_
  refine zh zJ_221 (i := (0, 0, 0, 1286)) rfl rfl (k' := 13) (lo' := [(0, .ref a), (1, .int u), (2, .int v)]) (st' := [.int (Int32.ofInt (1286)), .ref w]) (h' := h56) rfl ?_
  refine zh zJ_221 (i := (0, 0, 0, 2)) rfl rfl (k' := 14) (lo' := [(0, .ref a), (1, .int u), (2, .int v)]) (st' := [.int (Int32.ofInt (2)), .int (Int32.ofInt (1286)), .ref w]) (h' := h56) rfl ?_
  refine zh zJ_221 (i := (2, 0, 0, 0)) rfl rfl (k' := 15) (lo' := [(0, .ref a), (1, .int u), (2, .int v)]) (st' := [.ref a, .int (Int32.ofInt (2)), .int (Int32.ofInt (1286)), .ref w]) (h' := h56) rfl ?_
  refine zg16 Hh56 zJ_221 rfl (k' := 16) rfl (fun x57 ex57 => ?_)
  have k2 : (Int32.ofInt (1286) + Int32.ofInt (2) * x57 + Int32.ofInt (1)).toInt = ((1287 + 2 * S : Nat) : Int) := by
    rw [zI_add (zI_add (zI_c (by decide) (by decide)) (zI_mul (zI_c (by decide) (by decide)) ex57 (by omega) (by omega)) (by omega) (by omega)) (zI_c (by decide) (by decide)) (by omega) (by omega)]
    omega
  refine zh zJ_221 (i := (10, 0, 0, 0)) rfl rfl (k' := 17) (lo' := [(0, .ref a), (1, .int u), (2, .int v)]) (st' := [.int ((Int32.ofInt (2)) * x57), .int (Int32.ofInt (1286)), .ref w]) (h' := h56) rfl ?_
  refine zh zJ_221 (i := (8, 0, 0, 0)) rfl rfl (k' := 18) (lo' := [(0, .ref a), (1, .int u), (2, .int v)]) (st' := [.int ((Int32.ofInt (1286)) + ((Int32.ofInt (2)) * x57)), .ref w]) (h' := h56) rfl ?_
  refine zh zJ_221 (i := (0, 0, 0, 1)) rfl rfl (k' := 19) (lo' := [(0, .ref a), (1, .int u), (2, .int v)]) (st' := [.int (Int32.ofInt (1)), .int ((Int32.ofInt (1286)) + ((Int32.ofInt (2)) * x57)), .ref w]) (h' := h56) rfl ?_
  refine zh zJ_221 (i := (8, 0, 0, 0)) rfl rfl (k' := 20) (lo' := [(0, .ref a), (1, .int u), (2, .int v)]) (st' := [.int (((Int32.ofInt (1286)) + ((Int32.ofInt (2)) * x57)) + (Int32.ofInt (1))), .ref w]) (h' := h56) rfl ?_
  refine zh zJ_221 (i := (1, 2, 0, 0)) rfl rfl (k' := 21) (lo' := [(0, .ref a), (1, .int u), (2, .int v)]) (st' := [.int v, .int (((Int32.ofInt (1286)) + ((Int32.ofInt (2)) * x57)) + (Int32.ofInt (1))), .ref w]) (h' := h56) rfl ?_
  refine zpw Hh56 zJ_221 rfl (k' := 22) rfl (1287 + 2 * S) k2 (by omega) (by omega) (fun h58 Hh58 => ?_)
  refine zh zJ_221 (i := (2, 0, 0, 0)) rfl rfl (k' := 23) (lo' := [(0, .ref a), (1, .int u), (2, .int v)]) (st' := [.ref a]) (h' := h58) rfl ?_
  refine zh zJ_221 (i := (27, 0, 0, 0)) rfl rfl (k' := 24) (lo' := [(0, .ref a), (1, .int u), (2, .int v)]) (st' := [.ref a, .ref a]) (h' := h58) rfl ?_
  refine zg16 Hh58 zJ_221 rfl (k' := 25) rfl (fun x59 ex59 => ?_)
  refine zh zJ_221 (i := (0, 0, 0, 1)) rfl rfl (k' := 26) (lo' := [(0, .ref a), (1, .int u), (2, .int v)]) (st' := [.int (Int32.ofInt (1)), .int x59, .ref a]) (h' := h58) rfl ?_
  refine zh zJ_221 (i := (8, 0, 0, 0)) rfl rfl (k' := 27) (lo' := [(0, .ref a), (1, .int u), (2, .int v)]) (st' := [.int (x59 + (Int32.ofInt (1))), .ref a]) (h' := h58) rfl ?_
  refine zp16 Hh58 zJ_221 rfl (k' := 28) rfl (S + 1) (by rw [zI_add ex59 (zI_c (by decide) (by decide)) (by omega) (by omega)]; omega) (by omega) (fun h60 Hh60 => ?_)
  refine zh_vret zJ_221 (a := 0) (b := 0) (z := 0) rfl ?_
  exact ⟨_, rfl, rfl, rfl, rfl, Hh60⟩
