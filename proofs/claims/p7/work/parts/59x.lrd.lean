/-! the class's lawRead; printed with wip/gen/gen_lrd.py -/
section ZHA
variable {sx : zX} {d j k : Nat} {lo : zL} {st : List Value} {h : zH} {Ψ : zO → zH → Nat → Nat → Prop} {M : zMi} {cs : List zI} {hs : List zHd} {i : zI}
/-- a step that makes something -/
theorem zha {k' : Nat} {lo' : zL} {st' : List Value} {h' : zH} {x y : Nat} (J : zJ3 j M cs hs) (hi : cs[k]? = some i) (hn : znc i.1 = true) (ho : (z_ops.getD i.1 z_no) sx d i.2.1 i.2.2.1 i.2.2.2 k lo st h = some (k', lo', st', h', x, y)) (kk : z_ok sx d j k' lo' st' h' (fun o h9 a b => Ψ o h9 (a + x) (b + y))) : z_ok sx d j k lo st h Ψ := by
  have hn := of_decide_eq_true hn
  exact z_ok.step J.1 J.2.1 J.2.2 hi (z_fin_no ⟨hn.1, hn.2.1, hn.2.2.1, hn.2.2.2.1, hn.2.2.2.2.1⟩) (z_cal_non hn.2.2.2.2.2) ho kk
theorem zh_aret {a b r : Nat} {z : Int} (J : zJ3 j M cs hs) (hi : cs[k]? = some (52, a, b, z)) (kk : Ψ (.inl (some (.ref r))) h 0 0) : z_ok sx d j k lo [.ref r] h Ψ := z_ok.fin J.1 J.2.1 J.2.2 hi rfl kk
theorem zh_oinit {a b k' r : Nat} {z : Int} (J : zJ3 j M cs hs) (hi : cs[k]? = some (57, a, b, z)) (hk : k + 1 = k') (hd : 6 ≤ d) (hz : z_cat st ≤ 8) (kk : z_ok sx d j k' lo st h Ψ) : z_ok sx d j k lo (.ref r :: st) h Ψ := by
  refine zh J hi rfl ?_ kk
  show zo_oinit sx d a b z k lo (.ref r :: st) h = _
  unfold zo_oinit
  dsimp only
  rw [if_pos ⟨hd, hz⟩, hk]
theorem zcal56 {j' n r : Nat} {c : Int} {xs rest : List Value} {M' : zMi} (hd : 0 < d) (hst : st = xs ++ .ref r :: rest) (hx : xs.length = n) (hz : z_cat rest ≤ 8) (hM : z_ms[j']? = some M') (hl : (lg_sl (.ref r :: xs.reverse)).length ≤ M'.2.2.2.1) : z_cal (56, j', n, c) d st h = some (j', .ref r :: xs.reverse, rest) := by
  subst hst
  have h0 : z_cal0 (56, j', n, c) d (xs ++ .ref r :: rest) h = some (j', .ref r :: xs.reverse, rest) := by
    unfold z_cal0
    have e1 : ¬ (d = 0 ∨ (xs ++ Value.ref r :: rest).length < n) := by
      rw [List.length_append, List.length_cons]
      omega
    have e2 : (xs ++ Value.ref r :: rest).drop n = .ref r :: rest := by rw [← hx]; exact List.drop_left
    have e3 : (xs ++ Value.ref r :: rest).take n = xs := by rw [← hx]; exact List.take_left
    dsimp only
    rw [if_neg e1, e2, e3]
    dsimp only
    rw [if_pos hz]
    rfl
  unfold z_cal
  rw [h0]
  dsimp only
  rw [hM]
  dsimp only
  rw [if_pos hl]
end ZHA
theorem zapp_lt {h es : zH} {a : Nat} {e : zE} (he : h[a]? = some e) : (h ++ es)[a]? = some e := by
  rw [List.getElem?_append_left (List.getElem?_eq_some_iff.mp he).1]
  exact he
theorem zapp_at {h es : zH} {e : zE} : (h ++ e :: es)[h.length]? = some e := by
  rw [List.getElem?_append_right (Nat.le_refl _), Nat.sub_self]
  rfl
theorem zapp_set {h : zH} {e e' : zE} : (h ++ [e]).set h.length e' = h ++ [e'] := by
  rw [List.set_append_right _ _ (Nat.le_refl _), Nat.sub_self]
  rfl
theorem zJ_314 : zJ3 314 z_m314 z_c314 z_h314 := ⟨rfl, rfl, rfl⟩
set_option maxRecDepth 100000 in
theorem zS_314 {sx : zX} {d s n X : Nat} {h : zH} {f : Nat → Int32} {x : Int32} (hd : 6 ≤ d) (he : h[s]? = some (.inl (0, (n, .inl f)))) (hn : n ≤ 400) (hx : x.toInt = (X : Int)) (hX : X ≤ n) (hB : h.length < zB) : z_ok sx d 314 0 (lv_args 0 [.ref s, .int x]) [] h (fun o h' a b => ∃ g : Nat → Int32, o = .inl (some (.ref h.length)) ∧ h' = h ++ [.inl (0, (X, .inl g))] ∧ (∀ i, i < X → g i = f i) ∧ a = 1 ∧ b = X) := by
  show z_ok sx d 314 0 [(0, .ref s), (1, .int x)] [] h _
  refine zh zJ_314 (i := (1, 1, 0, 0)) rfl rfl (k' := 1) (lo' := [(0, .ref s), (1, .int x)]) (st' := [.int x]) (h' := h) rfl ?_
  refine zh zJ_314 (i := (2, 0, 0, 0)) rfl rfl (k' := 2) (lo' := [(0, .ref s), (1, .int x)]) (st' := [.ref s, .int x]) (h' := h) rfl ?_
  refine zh_alen zJ_314 (a := 0) (b := 0) (z := 0) rfl (k' := 3) rfl he ?_
  refine zh_icmp zJ_314 (a := 8) (b := 1) (z := 0) rfl (fun hc1 => ?_) (fun hc1 => ?_)
  · refine zh zJ_314 (i := (1, 1, 0, 0)) rfl rfl (k' := 9) (lo' := [(0, .ref s), (1, .int x)]) (st' := [.int x]) (h' := h) rfl ?_
    refine zha zJ_314 (i := (47, 0, 0, 0)) rfl rfl (k' := 10) (lo' := [(0, .ref s), (1, .int x)]) (st' := [.ref h.length]) (h' := h ++ [.inl (0, (X, .inl (fun _ => 0)))]) (x := 1) (y := X) (by
      show zo_newa sx d 0 0 0 9 _ [.int x] h = _
      unfold zo_newa
      dsimp only
      rw [znat hx]
      exact if_pos ⟨by rw [Int32.lt_iff_toInt_lt, hx, show (0 : Int32).toInt = 0 from rfl]; omega, by omega, hB, by omega⟩) ?_
    refine zh zJ_314 (i := (5, 2, 0, 0)) rfl rfl (k' := 11) (lo' := [(2, .ref h.length), (0, .ref s), (1, .int x)]) (st' := []) (h' := (h ++ [.inl (0, (X, .inl (fun _ => 0)))])) rfl ?_
    refine zh zJ_314 (i := (2, 0, 0, 0)) rfl rfl (k' := 12) (lo' := [(2, .ref h.length), (0, .ref s), (1, .int x)]) (st' := [.ref s]) (h' := (h ++ [.inl (0, (X, .inl (fun _ => 0)))])) rfl ?_
    refine zh zJ_314 (i := (0, 0, 0, 0)) rfl rfl (k' := 13) (lo' := [(2, .ref h.length), (0, .ref s), (1, .int x)]) (st' := [.int (Int32.ofInt (0)), .ref s]) (h' := (h ++ [.inl (0, (X, .inl (fun _ => 0)))])) rfl ?_
    refine zh zJ_314 (i := (2, 2, 0, 0)) rfl rfl (k' := 14) (lo' := [(2, .ref h.length), (0, .ref s), (1, .int x)]) (st' := [.ref h.length, .int (Int32.ofInt (0)), .ref s]) (h' := (h ++ [.inl (0, (X, .inl (fun _ => 0)))])) rfl ?_
    refine zh zJ_314 (i := (0, 0, 0, 0)) rfl rfl (k' := 15) (lo' := [(2, .ref h.length), (0, .ref s), (1, .int x)]) (st' := [.int (Int32.ofInt (0)), .ref h.length, .int (Int32.ofInt (0)), .ref s]) (h' := (h ++ [.inl (0, (X, .inl (fun _ => 0)))])) rfl ?_
    refine zh zJ_314 (i := (2, 0, 0, 0)) rfl rfl (k' := 16) (lo' := [(2, .ref h.length), (0, .ref s), (1, .int x)]) (st' := [.ref s, .int (Int32.ofInt (0)), .ref h.length, .int (Int32.ofInt (0)), .ref s]) (h' := (h ++ [.inl (0, (X, .inl (fun _ => 0)))])) rfl ?_
    refine zh_alen zJ_314 (a := 0) (b := 0) (z := 0) rfl (k' := 17) rfl (zapp_lt he) ?_
    refine zh zJ_314 (i := (1, 1, 0, 0)) rfl rfl (k' := 18) (lo' := [(2, .ref h.length), (0, .ref s), (1, .int x)]) (st' := [.int x, .int (Int32.ofNat n), .int (Int32.ofInt (0)), .ref h.length, .int (Int32.ofInt (0)), .ref s]) (h' := (h ++ [.inl (0, (X, .inl (fun _ => 0)))])) rfl ?_
    have hmn : (if x < Int32.ofNat n then x else Int32.ofNat n) = x := (by
      by_cases hq : x < Int32.ofNat n
      · exact if_pos hq
      · rw [if_neg hq]
        rw [Int32.lt_iff_toInt_lt, hx, zofNat (by omega)] at hq
        exact Int32.toInt_inj.mp (by rw [hx, zofNat (by omega)]; omega))
    refine zh zJ_314 (i := (67, 0, 0, 0)) rfl rfl (k' := 19) (lo' := [(2, .ref h.length), (0, .ref s), (1, .int x)]) (st' := [.int x, .int (Int32.ofInt (0)), .ref h.length, .int (Int32.ofInt (0)), .ref s]) (h' := (h ++ [.inl (0, (X, .inl (fun _ => 0)))])) (by
      show zo_min sx d 0 0 0 18 _ [.int x, .int (Int32.ofNat n), .int (Int32.ofInt (0)), .ref h.length, .int (Int32.ofInt (0)), .ref s] _ = _
      unfold zo_min
      dsimp only
      rw [if_pos ⟨by omega, Nat.le_of_ble_eq_true rfl⟩, hmn]) ?_
    refine zh zJ_314 (i := (61, 0, 0, 0)) rfl rfl (k' := 20) (lo' := [(2, .ref h.length), (0, .ref s), (1, .int x)]) (st' := []) (h' := (h ++ [.inl (0, (X, .inl (va_cpy f (fun _ => 0) 0 0 X)))])) (by
      show zo_acopy sx d 0 0 0 19 _ [.int x, .int (Int32.ofInt (0)), .ref h.length, .int (Int32.ofInt (0)), .ref s] _ = _
      unfold zo_acopy
      dsimp only
      rw [zapp_lt he, zapp_at]
      rw [znat hx, show (Int32.ofInt (0)).toNatClampNeg = 0 from rfl]
      refine Eq.trans (if_pos ⟨by omega, Nat.zero_le _, by decide, by decide, by rw [Int32.lt_iff_toInt_lt, hx, show (0 : Int32).toInt = 0 from rfl]; omega, by omega, by omega⟩) ?_
      rw [zapp_set]) ?_
    refine zh zJ_314 (i := (2, 2, 0, 0)) rfl rfl (k' := 21) (lo' := [(2, .ref h.length), (0, .ref s), (1, .int x)]) (st' := [.ref h.length]) (h' := (h ++ [.inl (0, (X, .inl (va_cpy f (fun _ => 0) 0 0 X)))])) rfl ?_
    refine zh_aret zJ_314 (a := 0) (b := 0) (z := 0) rfl ?_
    refine ⟨_, rfl, rfl, fun i hi => ?_, Nat.zero_add _, Nat.zero_add _⟩
    unfold va_cpy
    rw [if_pos ⟨Nat.zero_le _, by omega⟩, Nat.sub_zero, Nat.zero_add]
  · have en : X = n := (by
      by_cases e : X = n
      · exact e
      · exact absurd (zcmp_ne.mpr (by rw [hx, zofNat (by omega)]; omega)) hc1)
    subst en
    refine zh zJ_314 (i := (2, 0, 0, 0)) rfl rfl (k' := 5) (lo' := [(0, .ref s), (1, .int x)]) (st' := [.ref s]) (h' := h) rfl ?_
    refine zha zJ_314 (i := (70, 0, 0, 0)) rfl rfl (k' := 6) (lo' := [(0, .ref s), (1, .int x)]) (st' := [.ref h.length]) (h' := h ++ [.inl (0, (X, .inl f))]) (x := 1) (y := X) (by
      show zo_clone sx d 0 0 0 5 _ [.ref s] h = _
      unfold zo_clone
      dsimp only
      rw [he]
      exact if_pos ⟨by omega, Nat.zero_le _, hB⟩) ?_
    refine zh zJ_314 (i := (71, 0, 0, 0)) rfl rfl (k' := 7) (lo' := [(0, .ref s), (1, .int x)]) (st' := [.ref h.length]) (h' := h ++ [.inl (0, (X, .inl f))]) (by
      show zo_cast sx d 0 0 0 6 _ [.ref h.length] (h ++ [.inl (0, (X, .inl f))]) = _
      unfold zo_cast
      dsimp only
      rw [zapp_at]
      rfl) ?_
    refine zh_aret zJ_314 (a := 0) (b := 0) (z := 0) rfl ?_
    exact ⟨f, rfl, rfl, fun i hi => rfl, Nat.zero_add _, Nat.zero_add _⟩
theorem zh_copy {sx : zX} {d j k k' : Nat} {lo : zL} {rest : List Value} {h : zH} {Ψ : zO → zH → Nat → Nat → Prop} {M : zMi} {cs : List zI} {hs : List zHd} {z : Int} {s n X : Nat} {f : Nat → Int32} {x : Int32} (J : zJ3 j M cs hs) (hi : cs[k]? = some (55, 314, 2, z)) (hk : k + 1 = k') (hd : 7 ≤ d) (he : h[s]? = some (.inl (0, (n, .inl f)))) (hn : n ≤ 400) (hx : x.toInt = (X : Int)) (hX : X ≤ n) (hB : h.length < zB) (hz : z_cat rest ≤ 8) (kk : ∀ g : Nat → Int32, (∀ i, i < X → g i = f i) → z_ok sx d j k' lo (.ref h.length :: rest) (h ++ [.inl (0, (X, .inl g))]) (fun o h' a b => Ψ o h' (a + 1) (b + X))) : z_ok sx d j k lo (.int x :: .ref s :: rest) h Ψ := by
  refine z_ok.call J.1 J.2.1 J.2.2 hi (z_fin_no (show (55 : Nat) ≠ 50 ∧ (55 : Nat) ≠ 51 ∧ (55 : Nat) ≠ 52 ∧ (55 : Nat) ≠ 53 ∧ (55 : Nat) ≠ 62 by decide)) (zcal55 (xs := [.int x, .ref s]) (rest := rest) (by omega) rfl rfl hz (M' := z_m314) rfl (Nat.le_of_ble_eq_true rfl)) (z_ok.imp (zS_314 (d := d - 1) (by omega) he hn hx hX hB) (fun o h' a b q => ?_))
  obtain ⟨g, rfl, rfl, hg, rfl, rfl⟩ := q
  rw [← hk] at kk
  exact kk g hg
theorem zJ_41 : zJ3 41 z_m41 z_c41 z_h41 := ⟨rfl, rfl, rfl⟩
theorem zsx_at {h L : zH} {r : Nat} {o : zE} (hr : r < h.length) : (h.set r o ++ L)[r]? = some o := by
  rw [List.getElem?_append_left (by rw [List.length_set]; exact hr), List.getElem?_set_self hr]
theorem zsx_set {h L : zH} {r : Nat} {o o' : zE} (hr : r < h.length) : (h.set r o ++ L).set r o' = h.set r o' ++ L := by
  rw [List.set_append_left _ _ (by rw [List.length_set]; exact hr), List.set_set]
theorem zsx_ne {h L : zH} {r s : Nat} {o e : zE} (hs : r ≠ s) (he : h[s]? = some e) : (h.set r o ++ L)[s]? = some e := by
  refine zapp_lt ?_
  rw [List.getElem?_set_ne hs]
  exact he
theorem zsx_len {h L : zH} {r : Nat} {o : zE} : (h.set r o ++ L).length = h.length + L.length := by
  rw [List.length_append, List.length_set]
set_option maxRecDepth 100000 in
theorem zS_41 {sx : zX} {d r s2 s3 s4 s5 X : Nat} {h : zH} {f2 f3 f4 : Nat → Int32} {x : Int32} (hd : 8 ≤ d) (hr : r < h.length) (n2 : r ≠ s2) (n3 : r ≠ s3) (n4 : r ≠ s4) (e2 : h[s2]? = some (.inl (0, (12, .inl f2)))) (e3 : h[s3]? = some (.inl (0, (12, .inl f3)))) (e4 : h[s4]? = some (.inl (0, (12, .inl f4)))) (hx : x.toInt = (X : Int)) (hX : X ≤ 12) (hB : h.length + 4 ≤ zB) : z_ok sx d 41 0 (lv_args 0 [.ref r, .int x, .ref s2, .ref s3, .ref s4, .ref s5]) [] (h.set r (.inr (2, [.int 0, .null, .null, .null, .null, .null])) ++ []) (fun o h' a b => ∃ g1 g2 g3 : Nat → Int32, o = .inl none ∧ h' = (h.set r (.inr (2, [.int x, .ref (h.length + 1), .ref (h.length + 2), .ref (h.length + 3), .ref s5, .ref h.length])) ++ [.inl (0, (32, .inl (fun _ => 0))), .inl (0, (X, .inl g1)), .inl (0, (X, .inl g2)), .inl (0, (X, .inl g3))]) ∧ (∀ i, i < X → g1 i = f2 i) ∧ (∀ i, i < X → g2 i = f3 i) ∧ (∀ i, i < X → g3 i = f4 i) ∧ a = 4 ∧ b = 32 + 3 * X) := by
  show z_ok sx d 41 0 [(0, .ref r), (1, .int x), (2, .ref s2), (3, .ref s3), (4, .ref s4), (5, .ref s5)] [] (h.set r (.inr (2, [.int 0, .null, .null, .null, .null, .null])) ++ []) _
  refine zh zJ_41 (i := (2, 0, 0, 0)) rfl rfl (k' := 1) (lo' := [(0, .ref r), (1, .int x), (2, .ref s2), (3, .ref s3), (4, .ref s4), (5, .ref s5)]) (st' := [.ref r]) (h' := (h.set r (.inr (2, [.int 0, .null, .null, .null, .null, .null])) ++ [])) rfl ?_
  refine zh_oinit zJ_41 (a := 0) (b := 0) (z := 0) rfl (k' := 2) rfl (by omega) (Nat.zero_le _) ?_
  refine zh zJ_41 (i := (2, 0, 0, 0)) rfl rfl (k' := 3) (lo' := [(0, .ref r), (1, .int x), (2, .ref s2), (3, .ref s3), (4, .ref s4), (5, .ref s5)]) (st' := [.ref r]) (h' := (h.set r (.inr (2, [.int 0, .null, .null, .null, .null, .null])) ++ [])) rfl ?_
  refine zh zJ_41 (i := (0, 0, 0, 32)) rfl rfl (k' := 4) (lo' := [(0, .ref r), (1, .int x), (2, .ref s2), (3, .ref s3), (4, .ref s4), (5, .ref s5)]) (st' := [.int (Int32.ofInt (32)), .ref r]) (h' := (h.set r (.inr (2, [.int 0, .null, .null, .null, .null, .null])) ++ [])) rfl ?_
  refine zha zJ_41 (i := (47, 0, 0, 0)) rfl rfl (k' := 5) (lo' := [(0, .ref r), (1, .int x), (2, .ref s2), (3, .ref s3), (4, .ref s4), (5, .ref s5)]) (st' := [.ref h.length, .ref r]) (h' := (h.set r (.inr (2, [.int 0, .null, .null, .null, .null, .null])) ++ [.inl (0, (32, .inl (fun _ => 0)))])) (x := 1) (y := 32) (by
      show zo_newa sx d 0 0 0 4 _ [.int (Int32.ofInt (32)), .ref r] _ = _
      unfold zo_newa
      dsimp only
      rw [if_pos ⟨by decide, by decide, by rw [zsx_len]; simp only [List.length_nil]; omega, by omega⟩, zsx_len, List.append_nil]
      rfl) ?_
  refine zh_put zJ_41 (b := 5) (c := 2) (z := 2) rfl (k' := 6) rfl (zsx_at hr) (by simp only [List.length_cons, List.length_nil]; omega) rfl ?_
  rw [zsx_set hr]
  show z_ok sx d 41 6 [(0, .ref r), (1, .int x), (2, .ref s2), (3, .ref s3), (4, .ref s4), (5, .ref s5)] [] (h.set r (.inr (2, [.int 0, .null, .null, .null, .null, .ref h.length])) ++ [.inl (0, (32, .inl (fun _ => 0)))]) _
  refine zh zJ_41 (i := (2, 0, 0, 0)) rfl rfl (k' := 7) (lo' := [(0, .ref r), (1, .int x), (2, .ref s2), (3, .ref s3), (4, .ref s4), (5, .ref s5)]) (st' := [.ref r]) (h' := (h.set r (.inr (2, [.int 0, .null, .null, .null, .null, .ref h.length])) ++ [.inl (0, (32, .inl (fun _ => 0)))])) rfl ?_
  refine zh zJ_41 (i := (1, 1, 0, 0)) rfl rfl (k' := 8) (lo' := [(0, .ref r), (1, .int x), (2, .ref s2), (3, .ref s3), (4, .ref s4), (5, .ref s5)]) (st' := [.int x, .ref r]) (h' := (h.set r (.inr (2, [.int 0, .null, .null, .null, .null, .ref h.length])) ++ [.inl (0, (32, .inl (fun _ => 0)))])) rfl ?_
  refine zh_put zJ_41 (b := 0) (c := 2) (z := 0) rfl (k' := 9) rfl (zsx_at hr) (by simp only [List.length_cons, List.length_nil]; omega) rfl ?_
  rw [zsx_set hr]
  show z_ok sx d 41 9 [(0, .ref r), (1, .int x), (2, .ref s2), (3, .ref s3), (4, .ref s4), (5, .ref s5)] [] (h.set r (.inr (2, [.int x, .null, .null, .null, .null, .ref h.length])) ++ [.inl (0, (32, .inl (fun _ => 0)))]) _
  refine zh zJ_41 (i := (2, 0, 0, 0)) rfl rfl (k' := 10) (lo' := [(0, .ref r), (1, .int x), (2, .ref s2), (3, .ref s3), (4, .ref s4), (5, .ref s5)]) (st' := [.ref r]) (h' := (h.set r (.inr (2, [.int x, .null, .null, .null, .null, .ref h.length])) ++ [.inl (0, (32, .inl (fun _ => 0)))])) rfl ?_
  refine zh zJ_41 (i := (2, 2, 0, 0)) rfl rfl (k' := 11) (lo' := [(0, .ref r), (1, .int x), (2, .ref s2), (3, .ref s3), (4, .ref s4), (5, .ref s5)]) (st' := [.ref s2, .ref r]) (h' := (h.set r (.inr (2, [.int x, .null, .null, .null, .null, .ref h.length])) ++ [.inl (0, (32, .inl (fun _ => 0)))])) rfl ?_
  refine zh zJ_41 (i := (1, 1, 0, 0)) rfl rfl (k' := 12) (lo' := [(0, .ref r), (1, .int x), (2, .ref s2), (3, .ref s3), (4, .ref s4), (5, .ref s5)]) (st' := [.int x, .ref s2, .ref r]) (h' := (h.set r (.inr (2, [.int x, .null, .null, .null, .null, .ref h.length])) ++ [.inl (0, (32, .inl (fun _ => 0)))])) rfl ?_
  refine zh_copy zJ_41 (z := 0) rfl (k' := 13) rfl (by omega) (zsx_ne n2 e2) (by omega) hx (by omega) (by rw [zsx_len]; simp only [List.length_cons, List.length_nil]; omega) (Nat.le_of_ble_eq_true rfl) (fun g1 hg1 => ?_)
  rw [zsx_len, List.append_assoc]
  show z_ok sx d 41 13 [(0, .ref r), (1, .int x), (2, .ref s2), (3, .ref s3), (4, .ref s4), (5, .ref s5)] [.ref (h.length + 1), .ref r] (h.set r (.inr (2, [.int x, .null, .null, .null, .null, .ref h.length])) ++ [.inl (0, (32, .inl (fun _ => 0))), .inl (0, (X, .inl g1))]) _
  refine zh_put zJ_41 (b := 1) (c := 2) (z := 2) rfl (k' := 14) rfl (zsx_at hr) (by simp only [List.length_cons, List.length_nil]; omega) rfl ?_
  rw [zsx_set hr]
  show z_ok sx d 41 14 [(0, .ref r), (1, .int x), (2, .ref s2), (3, .ref s3), (4, .ref s4), (5, .ref s5)] [] (h.set r (.inr (2, [.int x, .ref (h.length + 1), .null, .null, .null, .ref h.length])) ++ [.inl (0, (32, .inl (fun _ => 0))), .inl (0, (X, .inl g1))]) _
  refine zh zJ_41 (i := (2, 0, 0, 0)) rfl rfl (k' := 15) (lo' := [(0, .ref r), (1, .int x), (2, .ref s2), (3, .ref s3), (4, .ref s4), (5, .ref s5)]) (st' := [.ref r]) (h' := (h.set r (.inr (2, [.int x, .ref (h.length + 1), .null, .null, .null, .ref h.length])) ++ [.inl (0, (32, .inl (fun _ => 0))), .inl (0, (X, .inl g1))])) rfl ?_
  refine zh zJ_41 (i := (2, 3, 0, 0)) rfl rfl (k' := 16) (lo' := [(0, .ref r), (1, .int x), (2, .ref s2), (3, .ref s3), (4, .ref s4), (5, .ref s5)]) (st' := [.ref s3, .ref r]) (h' := (h.set r (.inr (2, [.int x, .ref (h.length + 1), .null, .null, .null, .ref h.length])) ++ [.inl (0, (32, .inl (fun _ => 0))), .inl (0, (X, .inl g1))])) rfl ?_
  refine zh zJ_41 (i := (1, 1, 0, 0)) rfl rfl (k' := 17) (lo' := [(0, .ref r), (1, .int x), (2, .ref s2), (3, .ref s3), (4, .ref s4), (5, .ref s5)]) (st' := [.int x, .ref s3, .ref r]) (h' := (h.set r (.inr (2, [.int x, .ref (h.length + 1), .null, .null, .null, .ref h.length])) ++ [.inl (0, (32, .inl (fun _ => 0))), .inl (0, (X, .inl g1))])) rfl ?_
  refine zh_copy zJ_41 (z := 0) rfl (k' := 18) rfl (by omega) (zsx_ne n3 e3) (by omega) hx (by omega) (by rw [zsx_len]; simp only [List.length_cons, List.length_nil]; omega) (Nat.le_of_ble_eq_true rfl) (fun g2 hg2 => ?_)
  rw [zsx_len, List.append_assoc]
  show z_ok sx d 41 18 [(0, .ref r), (1, .int x), (2, .ref s2), (3, .ref s3), (4, .ref s4), (5, .ref s5)] [.ref (h.length + 2), .ref r] (h.set r (.inr (2, [.int x, .ref (h.length + 1), .null, .null, .null, .ref h.length])) ++ [.inl (0, (32, .inl (fun _ => 0))), .inl (0, (X, .inl g1)), .inl (0, (X, .inl g2))]) _
  refine zh_put zJ_41 (b := 2) (c := 2) (z := 2) rfl (k' := 19) rfl (zsx_at hr) (by simp only [List.length_cons, List.length_nil]; omega) rfl ?_
  rw [zsx_set hr]
  show z_ok sx d 41 19 [(0, .ref r), (1, .int x), (2, .ref s2), (3, .ref s3), (4, .ref s4), (5, .ref s5)] [] (h.set r (.inr (2, [.int x, .ref (h.length + 1), .ref (h.length + 2), .null, .null, .ref h.length])) ++ [.inl (0, (32, .inl (fun _ => 0))), .inl (0, (X, .inl g1)), .inl (0, (X, .inl g2))]) _
  refine zh zJ_41 (i := (2, 0, 0, 0)) rfl rfl (k' := 20) (lo' := [(0, .ref r), (1, .int x), (2, .ref s2), (3, .ref s3), (4, .ref s4), (5, .ref s5)]) (st' := [.ref r]) (h' := (h.set r (.inr (2, [.int x, .ref (h.length + 1), .ref (h.length + 2), .null, .null, .ref h.length])) ++ [.inl (0, (32, .inl (fun _ => 0))), .inl (0, (X, .inl g1)), .inl (0, (X, .inl g2))])) rfl ?_
  refine zh zJ_41 (i := (2, 4, 0, 0)) rfl rfl (k' := 21) (lo' := [(0, .ref r), (1, .int x), (2, .ref s2), (3, .ref s3), (4, .ref s4), (5, .ref s5)]) (st' := [.ref s4, .ref r]) (h' := (h.set r (.inr (2, [.int x, .ref (h.length + 1), .ref (h.length + 2), .null, .null, .ref h.length])) ++ [.inl (0, (32, .inl (fun _ => 0))), .inl (0, (X, .inl g1)), .inl (0, (X, .inl g2))])) rfl ?_
  refine zh zJ_41 (i := (1, 1, 0, 0)) rfl rfl (k' := 22) (lo' := [(0, .ref r), (1, .int x), (2, .ref s2), (3, .ref s3), (4, .ref s4), (5, .ref s5)]) (st' := [.int x, .ref s4, .ref r]) (h' := (h.set r (.inr (2, [.int x, .ref (h.length + 1), .ref (h.length + 2), .null, .null, .ref h.length])) ++ [.inl (0, (32, .inl (fun _ => 0))), .inl (0, (X, .inl g1)), .inl (0, (X, .inl g2))])) rfl ?_
  refine zh_copy zJ_41 (z := 0) rfl (k' := 23) rfl (by omega) (zsx_ne n4 e4) (by omega) hx (by omega) (by rw [zsx_len]; simp only [List.length_cons, List.length_nil]; omega) (Nat.le_of_ble_eq_true rfl) (fun g3 hg3 => ?_)
  rw [zsx_len, List.append_assoc]
  show z_ok sx d 41 23 [(0, .ref r), (1, .int x), (2, .ref s2), (3, .ref s3), (4, .ref s4), (5, .ref s5)] [.ref (h.length + 3), .ref r] (h.set r (.inr (2, [.int x, .ref (h.length + 1), .ref (h.length + 2), .null, .null, .ref h.length])) ++ [.inl (0, (32, .inl (fun _ => 0))), .inl (0, (X, .inl g1)), .inl (0, (X, .inl g2)), .inl (0, (X, .inl g3))]) _
  refine zh_put zJ_41 (b := 3) (c := 2) (z := 2) rfl (k' := 24) rfl (zsx_at hr) (by simp only [List.length_cons, List.length_nil]; omega) rfl ?_
  rw [zsx_set hr]
  show z_ok sx d 41 24 [(0, .ref r), (1, .int x), (2, .ref s2), (3, .ref s3), (4, .ref s4), (5, .ref s5)] [] (h.set r (.inr (2, [.int x, .ref (h.length + 1), .ref (h.length + 2), .ref (h.length + 3), .null, .ref h.length])) ++ [.inl (0, (32, .inl (fun _ => 0))), .inl (0, (X, .inl g1)), .inl (0, (X, .inl g2)), .inl (0, (X, .inl g3))]) _
  refine zh zJ_41 (i := (2, 0, 0, 0)) rfl rfl (k' := 25) (lo' := [(0, .ref r), (1, .int x), (2, .ref s2), (3, .ref s3), (4, .ref s4), (5, .ref s5)]) (st' := [.ref r]) (h' := (h.set r (.inr (2, [.int x, .ref (h.length + 1), .ref (h.length + 2), .ref (h.length + 3), .null, .ref h.length])) ++ [.inl (0, (32, .inl (fun _ => 0))), .inl (0, (X, .inl g1)), .inl (0, (X, .inl g2)), .inl (0, (X, .inl g3))])) rfl ?_
  refine zh zJ_41 (i := (2, 5, 0, 0)) rfl rfl (k' := 26) (lo' := [(0, .ref r), (1, .int x), (2, .ref s2), (3, .ref s3), (4, .ref s4), (5, .ref s5)]) (st' := [.ref s5, .ref r]) (h' := (h.set r (.inr (2, [.int x, .ref (h.length + 1), .ref (h.length + 2), .ref (h.length + 3), .null, .ref h.length])) ++ [.inl (0, (32, .inl (fun _ => 0))), .inl (0, (X, .inl g1)), .inl (0, (X, .inl g2)), .inl (0, (X, .inl g3))])) rfl ?_
  refine zh_put zJ_41 (b := 4) (c := 2) (z := 2) rfl (k' := 27) rfl (zsx_at hr) (by simp only [List.length_cons, List.length_nil]; omega) rfl ?_
  rw [zsx_set hr]
  show z_ok sx d 41 27 [(0, .ref r), (1, .int x), (2, .ref s2), (3, .ref s3), (4, .ref s4), (5, .ref s5)] [] (h.set r (.inr (2, [.int x, .ref (h.length + 1), .ref (h.length + 2), .ref (h.length + 3), .ref s5, .ref h.length])) ++ [.inl (0, (32, .inl (fun _ => 0))), .inl (0, (X, .inl g1)), .inl (0, (X, .inl g2)), .inl (0, (X, .inl g3))]) _
  refine zh_vret zJ_41 (a := 0) (b := 0) (z := 0) rfl ?_
  exact ⟨g1, g2, g3, rfl, rfl, hg1, hg2, hg3, by omega, by omega⟩
theorem zJ_48 : zJ3 48 z_m48 z_c48 z_h48 := ⟨rfl, rfl, rfl⟩
theorem zTY.app {tt : Nat → zTy} {ty : List Nat} {h : zH} (T : zTY tt ty h) {ts : List Nat} {es : zH} (hl : ts.length = es.length) (hb : (h ++ es).length ≤ zB) (hn : ∀ (i t : Nat) (e : zE), ts[i]? = some t → es[i]? = some e → z_sh (tt t) e ∧ ∀ (j : Nat) (v : Value), z_rd e j = some v → ∀ r ∈ (tt t).2.2.2, r.1 ≤ (j : Int) → (j : Int) ≤ r.2.1 → zG (ty ++ ts) r.2.2 v) : zTY tt (ty ++ ts) (h ++ es) := by
  refine ⟨by rw [List.length_append, List.length_append, T.1, hl], hb, fun a t e ht he => ?_⟩
  by_cases ha : a < h.length
  · rw [List.getElem?_append_left (by rw [T.1]; exact ha)] at ht
    rw [List.getElem?_append_left ha] at he
    obtain ⟨s, v⟩ := T.2.2 a t e ht he
    refine ⟨s, fun j w hw r hr r1 r2 => zG_ext (fun i t hi => ?_) (v j w hw r hr r1 r2)⟩
    rw [List.getElem?_append_left (List.getElem?_eq_some_iff.mp hi).1]
    exact hi
  · rw [List.getElem?_append_right (by rw [T.1]; omega), T.1] at ht
    rw [List.getElem?_append_right (by omega)] at he
    exact hn (a - h.length) t e ht he
theorem zExt.app {ty ts : List Nat} : zExt ty (ty ++ ts) := fun i t hi => by
  rw [List.getElem?_append_left (List.getElem?_eq_some_iff.mp hi).1]
  exact hi
theorem zFm.app {ms : List zMod} {ty : List Nat} {h es : zH} : zFm ms ty h (h ++ es) := ⟨by rw [List.length_append]; omega, fun a t e e' ht he he' i _ => by
  rw [zapp_lt he] at he'
  cases he'
  rfl⟩
theorem zE1.app {ty ts : List Nat} {h es : zH} (T : zTY z_tt ty h) (E : zE1 ty h) (hn : ∀ t ∈ ts, ¬ (20 ≤ t ∧ t ≤ 32)) : zE1 (ty ++ ts) (h ++ es) := by
  have key : ∀ a t : Nat, 20 ≤ t → t ≤ 32 → (ty ++ ts)[a]? = some t → ty[a]? = some t := fun a t h1 h2 ht => by
    by_cases ha : a < ty.length
    · rw [List.getElem?_append_left ha] at ht
      exact ht
    · rw [List.getElem?_append_right (by omega)] at ht
      exact absurd ⟨h1, h2⟩ (hn t (List.mem_of_getElem? ht))
  refine ⟨fun a b t h1 h2 ha hb => E.1 a b t h1 h2 (key a t h1 h2 ha) (key b t h1 h2 hb), fun a t n f ht hz he => ?_⟩
  have h9 : 20 ≤ t ∧ t ≤ 32 := by rcases hz with rfl | rfl | rfl <;> omega
  have ha := key a t h9.1 h9.2 ht
  have hl : a < h.length := by rw [← T.1]; exact (List.getElem?_eq_some_iff.mp ha).1
  rw [List.getElem?_append_left hl] at he
  exact E.2 a t n f ha hz he
theorem ztt_l {L : Nat} (h : L ≤ 12) : z_tt (100 + L) = (0, 2, 6, [(0, 0, (0, (L : Int), (L : Int))), (1, 2, (2, ((140 + L : Nat) : Int), ((140 + L : Nat) : Int))), (3, 3, (2, ((120 + L : Nat) : Int), ((120 + L : Nat) : Int))), (4, 4, (2, 1000, 1400)), (5, 5, (2, 34, 34))]) := by
  unfold z_tt
  rw [if_neg (by omega), if_pos (by omega), show 100 + L - 100 = L by omega, show 100 + L + 40 = 140 + L by omega, show 100 + L + 20 = 120 + L by omega]
theorem ztt_e {L : Nat} (h : L ≤ 12) : z_tt (120 + L) = (1, 0, L, [(0, ((120 + L : Nat) : Int) - 121, (0, 0, 400))]) := by
  unfold z_tt
  rw [if_neg (by omega), if_neg (by omega), if_pos (by omega), show 120 + L - 120 = L by omega]
theorem ztt_k {L : Nat} (h : L ≤ 12) : z_tt (140 + L) = (1, 0, L, [(0, ((140 + L : Nat) : Int) - 141, zFull)]) := by
  unfold z_tt
  rw [if_neg (by omega), if_neg (by omega), if_neg (by omega), if_pos (by omega), show 140 + L - 140 = L by omega]
theorem ztt_c {C : Nat} (h : C ≤ 400) : z_tt (1000 + C) = (1, 0, C, [(0, ((1000 + C : Nat) : Int) - 1001, zFull)]) := by
  unfold z_tt
  rw [if_neg (by omega), if_neg (by omega), if_neg (by omega), if_neg (by omega), if_pos (by omega), show 1000 + C - 1000 = C by omega]
/-- an array of any ints -/
theorem znew_full {ty : List Nat} {n : Nat} {lo hi : Int} {g : Nat → Int32} (T : zTy) (hT : T = (1, 0, n, [(lo, hi, zFull)])) : z_sh T (.inl (0, (n, .inl g))) ∧ ∀ (j : Nat) (v : Value), z_rd (.inl (0, (n, .inl g))) j = some v → ∀ r ∈ T.2.2.2, r.1 ≤ (j : Int) → (j : Int) ≤ r.2.1 → zG ty r.2.2 v := by
  subst hT
  refine ⟨rfl, fun j v hv r hr _ _ => ?_⟩
  rw [List.mem_singleton.mp hr]
  rw [z_rd0] at hv
  split at hv
  · cases hv; exact zFull_ok _
  · cases hv
set_option maxRecDepth 100000 in
theorem zS_48 {sx : zX} {d r : Nat} {ty : List Nat} {h : zH} (hd : 9 ≤ d) (T : zTY z_tt ty h) (E : zE1 ty h) (hr : ty[r]? = some 4) (hB : h.length + 6 ≤ zB) : z_ok sx d 48 0 (lv_args 0 [.ref r]) [] h (fun o h' a b => ∃ (ty' : List Nat) (L : Nat), o = .inl (some (.ref h.length)) ∧ zExt ty ty' ∧ zTY z_tt ty' h' ∧ zE1 ty' h' ∧ zFm [] ty h h' ∧ a ≤ 6 ∧ b ≤ 900 ∧ ty'[h.length]? = some (100 + L) ∧ L ≤ 12) := by
  show z_ok sx d 48 0 [(0, .ref r)] [] h _
  obtain ⟨fs, he, hl⟩ := zcell0 (c := 3) (n := 6) T hr rfl rfl rfl
  obtain ⟨s0, f0, t0⟩ := zfd2 (b := 0) (u := 5) T hr he (by omega) (by decide +kernel)
  obtain ⟨s1, f1, t1⟩ := zfd2 (b := 1) (u := 5) T hr he (by omega) (by decide +kernel)
  obtain ⟨s2, f2, t2⟩ := zfd2 (b := 2) (u := 6) T hr he (by omega) (by decide +kernel)
  obtain ⟨s3, f3, t3⟩ := zfd2 (b := 3) (u := 7) T hr he (by omega) (by decide +kernel)
  obtain ⟨x4, f4, l4, u4⟩ := zfd0 (b := 4) (lo := 0) (hi := 12) T hr he (by omega) (by decide +kernel)
  obtain ⟨x5, f5, l5, u5⟩ := zfd0 (b := 5) (lo := 0) (hi := 400) T hr he (by omega) (by decide +kernel)
  obtain ⟨a0, c0⟩ := zcell1 (n := 12) T t0 rfl rfl
  obtain ⟨a1, c1⟩ := zcell1 (n := 12) T t1 rfl rfl
  obtain ⟨a2, c2⟩ := zcell1 (n := 12) T t2 rfl rfl
  obtain ⟨a3, c3⟩ := zcell1 (n := 400) T t3 rfl rfl
  obtain ⟨L, eL⟩ : ∃ L : Nat, x4.toInt = (L : Int) := ⟨x4.toInt.toNat, by omega⟩
  obtain ⟨C, eC⟩ : ∃ C : Nat, x5.toInt = (C : Int) := ⟨x5.toInt.toNat, by omega⟩
  refine zha zJ_48 (i := (49, 2, 0, 0)) rfl rfl (k' := 1) (lo' := [(0, .ref r)]) (st' := [.ref h.length]) (h' := (h ++ [.inr (2, [.int 0, .null, .null, .null, .null, .null])])) (x := 1) (y := 6) (by
      show zo_new sx d 2 0 0 0 _ [] h = _
      unfold zo_new
      rw [if_pos (by omega)]
      rfl) ?_
  refine zh zJ_48 (i := (27, 0, 0, 0)) rfl rfl (k' := 2) (lo' := [(0, .ref r)]) (st' := [.ref h.length, .ref h.length]) (h' := (h ++ [.inr (2, [.int 0, .null, .null, .null, .null, .null])])) rfl ?_
  refine zh zJ_48 (i := (2, 0, 0, 0)) rfl rfl (k' := 3) (lo' := [(0, .ref r)]) (st' := [.ref r, .ref h.length, .ref h.length]) (h' := (h ++ [.inr (2, [.int 0, .null, .null, .null, .null, .null])])) rfl ?_
  refine zh_get zJ_48 (b := 4) (c := 3) (z := 0) rfl (k' := 4) rfl (zapp_lt he) f4 ?_
  refine zh zJ_48 (i := (2, 0, 0, 0)) rfl rfl (k' := 5) (lo' := [(0, .ref r)]) (st' := [.ref r, .int x4, .ref h.length, .ref h.length]) (h' := (h ++ [.inr (2, [.int 0, .null, .null, .null, .null, .null])])) rfl ?_
  refine zh_get zJ_48 (b := 0) (c := 3) (z := 0) rfl (k' := 6) rfl (zapp_lt he) f0 ?_
  refine zh zJ_48 (i := (2, 0, 0, 0)) rfl rfl (k' := 7) (lo' := [(0, .ref r)]) (st' := [.ref r, .ref s0, .int x4, .ref h.length, .ref h.length]) (h' := (h ++ [.inr (2, [.int 0, .null, .null, .null, .null, .null])])) rfl ?_
  refine zh_get zJ_48 (b := 1) (c := 3) (z := 0) rfl (k' := 8) rfl (zapp_lt he) f1 ?_
  refine zh zJ_48 (i := (2, 0, 0, 0)) rfl rfl (k' := 9) (lo' := [(0, .ref r)]) (st' := [.ref r, .ref s1, .ref s0, .int x4, .ref h.length, .ref h.length]) (h' := (h ++ [.inr (2, [.int 0, .null, .null, .null, .null, .null])])) rfl ?_
  refine zh_get zJ_48 (b := 2) (c := 3) (z := 0) rfl (k' := 10) rfl (zapp_lt he) f2 ?_
  refine zh zJ_48 (i := (2, 0, 0, 0)) rfl rfl (k' := 11) (lo' := [(0, .ref r)]) (st' := [.ref r, .ref s2, .ref s1, .ref s0, .int x4, .ref h.length, .ref h.length]) (h' := (h ++ [.inr (2, [.int 0, .null, .null, .null, .null, .null])])) rfl ?_
  refine zh_get zJ_48 (b := 3) (c := 3) (z := 0) rfl (k' := 12) rfl (zapp_lt he) f3 ?_
  refine zh zJ_48 (i := (2, 0, 0, 0)) rfl rfl (k' := 13) (lo' := [(0, .ref r)]) (st' := [.ref r, .ref s3, .ref s2, .ref s1, .ref s0, .int x4, .ref h.length, .ref h.length]) (h' := (h ++ [.inr (2, [.int 0, .null, .null, .null, .null, .null])])) rfl ?_
  refine zh_get zJ_48 (b := 5) (c := 3) (z := 0) rfl (k' := 14) rfl (zapp_lt he) f5 ?_
  refine zh_copy zJ_48 (z := 0) rfl (k' := 15) rfl (by omega) (zapp_lt c3) (by omega) eC (by omega) (by rw [List.length_append, List.length_singleton]; omega) (Nat.le_of_ble_eq_true rfl) (fun gc hgc => ?_)
  rw [List.length_append, List.length_singleton, List.append_assoc]
  show z_ok sx d 48 15 [(0, .ref r)] [.ref (h.length + 1), .ref s2, .ref s1, .ref s0, .int x4, .ref h.length, .ref h.length] (h ++ [.inr (2, [.int 0, .null, .null, .null, .null, .null]), .inl (0, (C, .inl gc))]) _
  generalize hX : h ++ ([.inr (2, [.int 0, .null, .null, .null, .null, .null]), .inl (0, (C, .inl gc))] : zH) = hc
  have lc : hc.length = h.length + 2 := by rw [← hX, List.length_append]; rfl
  have hcr : hc.set h.length (.inr (2, [.int 0, .null, .null, .null, .null, .null])) ++ [] = hc := by
    rw [List.append_nil, ← hX, List.set_append_right _ _ (Nat.le_refl _), Nat.sub_self]
    rfl
  have k0 : hc[s0]? = some (.inl (0, (12, .inl a0))) := by rw [← hX]; exact zapp_lt c0
  have k1 : hc[s1]? = some (.inl (0, (12, .inl a1))) := by rw [← hX]; exact zapp_lt c1
  have k2 : hc[s2]? = some (.inl (0, (12, .inl a2))) := by rw [← hX]; exact zapp_lt c2
  have m0 := (List.getElem?_eq_some_iff.mp c0).1
  have m1 := (List.getElem?_eq_some_iff.mp c1).1
  have m2 := (List.getElem?_eq_some_iff.mp c2).1
  have R := zS_41 (sx := sx) (d := d - 1) (h := hc) (r := h.length) (s5 := h.length + 1) (x := x4) (X := L) (by omega) (by omega) (by omega) (by omega) (by omega) k0 k1 k2 eL (by omega) (by omega)
  rw [hcr] at R
  refine z_ok.call zJ_48.1 zJ_48.2.1 zJ_48.2.2 (i := (56, 41, 5, 0)) rfl (z_fin_no (by decide)) (zcal56 (xs := [.ref (h.length + 1), .ref s2, .ref s1, .ref s0, .int x4]) (rest := [.ref h.length]) (by omega) rfl rfl (Nat.le_of_ble_eq_true rfl) (M' := z_m41) rfl (Nat.le_of_ble_eq_true rfl)) (z_ok.imp R (fun o h' a b q => ?_))
  obtain ⟨g1, g2, g3, rfl, rfl, q1, q2, q3, rfl, rfl⟩ := q
  have ef : hc.set h.length (.inr (2, [.int x4, .ref (hc.length + 1), .ref (hc.length + 2), .ref (hc.length + 3), .ref (h.length + 1), .ref hc.length])) ++ [.inl (0, (32, .inl (fun _ => 0))), .inl (0, (L, .inl g1)), .inl (0, (L, .inl g2)), .inl (0, (L, .inl g3))] = h ++ [.inr (2, [.int x4, .ref (h.length + 3), .ref (h.length + 4), .ref (h.length + 5), .ref (h.length + 1), .ref (h.length + 2)]), .inl (0, (C, .inl gc)), .inl (0, (32, .inl (fun _ => 0))), .inl (0, (L, .inl g1)), .inl (0, (L, .inl g2)), .inl (0, (L, .inl g3))] := by
    rw [lc, ← hX, List.set_append_right _ _ (Nat.le_refl _), Nat.sub_self, List.append_assoc]
    rfl
  rw [ef]
  show z_ok sx d 48 16 [(0, .ref r)] [.ref h.length] (h ++ [.inr (2, [.int x4, .ref (h.length + 3), .ref (h.length + 4), .ref (h.length + 5), .ref (h.length + 1), .ref (h.length + 2)]), .inl (0, (C, .inl gc)), .inl (0, (32, .inl (fun _ => 0))), .inl (0, (L, .inl g1)), .inl (0, (L, .inl g2)), .inl (0, (L, .inl g3))]) _
  refine zh_aret zJ_48 (a := 0) (b := 0) (z := 0) rfl ?_
  have tn : ∀ (i t : Nat), ([100 + L, 1000 + C, 34, 140 + L, 140 + L, 120 + L] : List Nat)[i]? = some t → (ty ++ [100 + L, 1000 + C, 34, 140 + L, 140 + L, 120 + L])[h.length + i]? = some t := fun i t hi => by
    rw [List.getElem?_append_right (by rw [T.1]; omega), T.1, show h.length + i - h.length = i by omega]
    exact hi
  have TT : zTY z_tt (ty ++ [100 + L, 1000 + C, 34, 140 + L, 140 + L, 120 + L]) (h ++ [.inr (2, [.int x4, .ref (h.length + 3), .ref (h.length + 4), .ref (h.length + 5), .ref (h.length + 1), .ref (h.length + 2)]), .inl (0, (C, .inl gc)), .inl (0, (32, .inl (fun _ => 0))), .inl (0, (L, .inl g1)), .inl (0, (L, .inl g2)), .inl (0, (L, .inl g3))]) := by
    refine T.app rfl (by rw [List.length_append]; show h.length + 6 ≤ zB; omega) (fun i t e hi he9 => ?_)
    match i, hi, he9 with
    | 0, hi, he9 =>
      cases hi
      cases he9
      rw [ztt_l (by omega)]
      refine ⟨⟨rfl, rfl⟩, fun j v hv rg hr9 r1 r2 => ?_⟩
      have hv : ([.int x4, .ref (h.length + 3), .ref (h.length + 4), .ref (h.length + 5), .ref (h.length + 1), .ref (h.length + 2)] : List Value)[j]? = some v := hv
      rcases List.mem_cons.mp hr9 with rfl | hr9
      · have ej : j = 0 := by have r2 : (j : Int) ≤ 0 := r2; omega
        subst ej
        cases hv
        exact ⟨x4, rfl, by show (L : Int) ≤ _; omega, by show _ ≤ (L : Int); omega⟩
      rcases List.mem_cons.mp hr9 with rfl | hr9
      · have ej : j = 1 ∨ j = 2 := by have r1 : (1 : Int) ≤ j := r1; have r2 : (j : Int) ≤ 2 := r2; omega
        rcases ej with rfl | rfl
        · cases hv
          exact ⟨_, 140 + L, rfl, tn 3 _ rfl, Int.le_refl _, Int.le_refl _⟩
        · cases hv
          exact ⟨_, 140 + L, rfl, tn 4 _ rfl, Int.le_refl _, Int.le_refl _⟩
      rcases List.mem_cons.mp hr9 with rfl | hr9
      · have ej : j = 3 := by have r1 : (3 : Int) ≤ j := r1; have r2 : (j : Int) ≤ 3 := r2; omega
        subst ej
        cases hv
        exact ⟨_, 120 + L, rfl, tn 5 _ rfl, Int.le_refl _, Int.le_refl _⟩
      rcases List.mem_cons.mp hr9 with rfl | hr9
      · have ej : j = 4 := by have r1 : (4 : Int) ≤ j := r1; have r2 : (j : Int) ≤ 4 := r2; omega
        subst ej
        cases hv
        exact ⟨_, 1000 + C, rfl, tn 1 _ rfl, by show (1000 : Int) ≤ _; omega, by show _ ≤ (1400 : Int); omega⟩
      · rw [List.mem_singleton.mp hr9] at r1 r2 ⊢
        have ej : j = 5 := by have r1 : (5 : Int) ≤ j := r1; have r2 : (j : Int) ≤ 5 := r2; omega
        subst ej
        cases hv
        exact ⟨_, 34, rfl, tn 2 _ rfl, Int.le_refl _, Int.le_refl _⟩
    | 1, hi, he9 => cases hi; cases he9; exact znew_full _ (ztt_c (by omega))
    | 2, hi, he9 => cases hi; cases he9; exact znew_full _ rfl
    | 3, hi, he9 => cases hi; cases he9; exact znew_full _ (ztt_k (by omega))
    | 4, hi, he9 => cases hi; cases he9; exact znew_full _ (ztt_k (by omega))
    | 5, hi, he9 =>
      cases hi
      cases he9
      rw [ztt_e (by omega)]
      refine ⟨rfl, fun j v hv rg hr9 r1 r2 => ?_⟩
      rw [List.mem_singleton.mp hr9]
      rw [z_rd0] at hv
      split at hv
      · next hj =>
        cases hv
        rw [q3 j hj]
        have := zel (lo := 0) (hi := 11) (A := (0, 0, 400)) T t2 c2 (i := j) (by omega) (by decide +kernel) (by omega) (by omega)
        obtain ⟨y, e, y1, y2⟩ := this
        exact ⟨y, e, y1, y2⟩
      · cases hv
    | n + 6, hi, he9 => cases hi
  exact ⟨_, L, rfl, zExt.app, TT, E.app T (by intro t ht; simp only [List.mem_cons, List.not_mem_nil, or_false] at ht; omega), zFm.app, by omega, by omega, tn 0 _ rfl, by omega⟩
