/-! findsRoom -/
set_option maxRecDepth 100000 in
theorem zLo_286 {sx : zX} {d a : Nat} {ty0 : List Nat} {h0 : zH} (hd : 15 ≤ d) (H : ∀ c, c < 240 → ∀ c', zCtl[c]? = some c' → zVd z_tt zE1 c') (ha0 : ty0[a]? = some 20) : ∀ (m : Nat) (ty : List Nat) (h : zH) (lo : zL) (s : Int32) (cf : Nat → Int32) (r x3 : Int32) (i : Nat), zIv ty0 h0 a ty h lo s cf r → z_get lo 3 = some (.int x3) → x3.toInt = (i : Int) → i + m = 6 → z_ok sx d 286 10 lo [] h (zPlf ty0 h0 a)
  | m, ty, h, lo, s, cf, r, x3, i, I, g3, e3, hm => by
    obtain ⟨X, T, E, F, S, C, g0, g2, V⟩ := id I
    have h50 : z_ok sx d 286 50 lo [] h (zPlf ty0 h0 a) := by
      refine zh_ild zJ_286 (a := 2) (b := 0) (z := 0) rfl (k' := 51) rfl g2 ?_
      refine zh_iret zJ_286 (a := 0) (b := 0) (z := 0) rfl (Or.inl rfl) ?_
      exact ⟨rfl, rfl, ty, r, s, cf, X, T, E, F, rfl, S, C, V⟩
    refine zh_ild zJ_286 (a := 3) (b := 0) (z := 0) rfl (k' := 11) rfl g3 ?_
    refine zh zJ_286 (i := (0, 0, 0, 6)) rfl rfl (k' := 12) (lo' := lo) (st' := [.int (Int32.ofInt (6)), .int x3]) (h' := h) rfl ?_
    refine zh_icmp zJ_286 (a := 50) (b := 3) (z := 0) rfl (fun _ => h50) (fun hc => ?_)
    have h6 : x3.toInt < 6 := by
      have : ¬ (Int32.ofInt (6)).toInt ≤ x3.toInt := fun e => hc (zcmp_ge.mpr e)
      rw [show (Int32.ofInt (6)).toInt = 6 from rfl] at this
      omega
    refine zh_ild zJ_286 (a := 2) (b := 0) (z := 0) rfl (k' := 14) rfl g2 ?_
    refine zh zJ_286 (i := (0, 0, 0, -1)) rfl rfl (k' := 15) (lo' := lo) (st' := [.int (Int32.ofInt (-1)), .int r]) (h' := h) rfl ?_
    refine zh_icmp zJ_286 (a := 50) (b := 1) (z := 0) rfl (fun _ => h50) (fun hc2 => ?_)
    refine zh zJ_286 (i := (0, 0, 0, 0)) rfl rfl (k' := 17) (lo' := lo) (st' := [.int (Int32.ofInt (0))]) (h' := h) rfl ?_
    refine zh_ist zJ_286 (a := 4) (b := 0) (z := 0) rfl (k' := 18) rfl ?_
    refine zLi_286 (x3 := x3) hd H ha0 (fun ty9 h9 lo9 s9 cf9 r9 I9 g39 => ?_) 24 ty h _ s cf r (Int32.ofInt (0)) 0 ⟨X, T, E, F, S, C, zget_set1_ne g0 (by decide) rfl, zget_set1_ne g2 (by decide) rfl, V⟩ (zget_set1_ne g3 (by decide) rfl) zget_self rfl rfl
    obtain ⟨b1, b2, b3, b4, b5, b6, b7, b8, b9⟩ := I9
    refine zh_iinc zJ_286 (a := 3) (b := 0) (z := 1) rfl (k' := 49) rfl g39 ?_
    refine zh zJ_286 (i := (30, 10, 0, 0)) rfl rfl (k' := 10) (lo' := z_set1 lo9 3 (.int (x3 + Int32.ofInt 1))) (st' := []) (h' := h9) rfl ?_
    cases m with
    | zero => omega
    | succ m => exact zLo_286 hd H ha0 m ty9 h9 _ s9 cf9 r9 _ (i + 1) ⟨b1, b2, b3, b4, b5, b6, zget_set1_ne b7 (by decide) rfl, zget_set1_ne b8 (by decide) rfl, b9⟩ zget_self (zinc e3 (by omega)) (by omega)
set_option maxRecDepth 100000 in
theorem zR_286 {sx : zX} {d a : Nat} {ty : List Nat} {h : zH} {hr : Int32} (hd : 15 ≤ d) (H : ∀ c, c < 240 → ∀ c', zCtl[c]? = some c' → zVd z_tt zE1 c') (ha : ty[a]? = some 20) (r1 : 0 ≤ hr.toInt) (r2 : hr.toInt ≤ 23) (T : zTY z_tt ty h) (E : zE1 ty h) : z_ok sx d 286 0 [(0, .ref a), (1, .int hr)] [] h (zPlf ty h a) := by
  obtain ⟨fs, he, hl⟩ := zcell0 (c := 9) (n := 23) T ha rfl rfl rfl
  obtain ⟨wc, hc1, hc2⟩ := zfd2 (b := 21) (u := 32) T ha he (by omega) (by decide +kernel)
  obtain ⟨cf, hcf⟩ := zcell1 (n := 6) T hc2 rfl rfl
  obtain ⟨T1, F1⟩ := zwf' (ms := zMlf) (b := 22) (v := .int (Int32.ofInt (0))) (V := zFull) T ha he (by omega) (zFull_ok _) (by decide +kernel) (by decide +kernel)
  have E1 := zE1_stable (ms := zMlf) (by decide +kernel) ty h _ T T1 (T.len T1) F1 E
  have he1 := zset_eq (e := .inr (9, fs.set 22 (.int (Int32.ofInt (0))))) he
  have nac : a ≠ wc := fun e => by rw [e, hc2] at ha; cases ha
  have hcf1 := (zset_ne (h := h) (e := .inr (9, fs.set 22 (.int (Int32.ofInt (0))))) nac).trans hcf
  have S1 : zSe (h.set a (.inr (9, fs.set 22 (.int (Int32.ofInt (0)))))) a 0 cf := ⟨_, _, wc, he1, List.getElem?_set_self (by omega), (List.getElem?_set_ne (by decide)).trans hc1, hcf1, fun i hi => by rw [z_rd0, if_pos hi]⟩
  refine zh zJ_286 (i := (2, 0, 0, 0)) rfl rfl (k' := 1) (lo' := [(0, .ref a), (1, .int hr)]) (st' := [.ref a]) (h' := h) rfl ?_
  refine zh zJ_286 (i := (0, 0, 0, 0)) rfl rfl (k' := 2) (lo' := [(0, .ref a), (1, .int hr)]) (st' := [.int (Int32.ofInt (0)), .ref a]) (h' := h) rfl ?_
  refine zh_put zJ_286 (b := 22) (c := 9) (z := 0) rfl (k' := 3) rfl he (by omega) rfl ?_
  generalize h.set a (.inr (9, fs.set 22 (.int (Int32.ofInt (0))))) = h1 at T1 F1 E1 he1 S1 ⊢
  refine zh zJ_286 (i := (2, 0, 0, 0)) rfl rfl (k' := 4) (lo' := [(0, .ref a), (1, .int hr)]) (st' := [.ref a]) (h' := h1) rfl ?_
  refine zh zJ_286 (i := (1, 1, 0, 0)) rfl rfl (k' := 5) (lo' := [(0, .ref a), (1, .int hr)]) (st' := [.int hr, .ref a]) (h' := h1) rfl ?_
  refine zh zJ_286 (i := (0, 0, 0, -1)) rfl rfl (k' := 6) (lo' := [(0, .ref a), (1, .int hr)]) (st' := [.int (Int32.ofInt (-1)), .int hr, .ref a]) (h' := h1) rfl ?_
  refine zh_run zJ_286 (i := (54, 285, 2, 9)) (rest := []) (as := [.ref a, .int hr, .int (Int32.ofInt (-1))]) rfl (by decide) (zcal54 (xs := [.int (Int32.ofInt (-1)), .int hr]) (by omega) rfl rfl he1 rfl (Nat.le_of_ble_eq_true rfl) (M' := z_m285) rfl (Nat.le_of_ble_eq_true rfl)) (zR_285 (by omega) H ha r1 r2 T1 E1 S1 (zChn_0 cf) (Or.inl rfl)) (fun o h2 x9 y9 q => ?_)
  obtain ⟨rfl, rfl, ty2, r, s2, cf2, q1, q2, q3, q4, rfl, q6, q7, q8⟩ := q
  refine ⟨_, rfl, rfl, rfl, ?_⟩
  show z_ok sx d 286 7 [(0, .ref a), (1, .int hr)] [.int r] h2 _
  refine zh zJ_286 (i := (4, 2, 0, 0)) rfl rfl (k' := 8) (lo' := [(2, .int r), (0, .ref a), (1, .int hr)]) (st' := []) (h' := h2) rfl ?_
  refine zh zJ_286 (i := (0, 0, 0, 0)) rfl rfl (k' := 9) (lo' := [(2, .int r), (0, .ref a), (1, .int hr)]) (st' := [.int (Int32.ofInt (0))]) (h' := h2) rfl ?_
  refine zh zJ_286 (i := (4, 3, 0, 0)) rfl rfl (k' := 10) (lo' := [(3, .int (Int32.ofInt (0))), (2, .int r), (0, .ref a), (1, .int hr)]) (st' := []) (h' := h2) rfl ?_
  exact zLo_286 hd H ha 6 ty2 h2 _ s2 cf2 r _ 0 ⟨q1, q2, q3, F1.tr zExt.rf q4, q6, q7, rfl, rfl, q8⟩ rfl rfl rfl
