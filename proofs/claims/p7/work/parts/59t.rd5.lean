/-! the reference's law; printed with wip/gen/gen_rd5.py -/
/-- a typed write into a field -/
theorem zputT {sx : zX} {d j k k' : Nat} {lo : zL} {st : List Value} {h : zH} {Ψ : zO → zH → Nat → Nat → Prop} {M : zMi} {cs : List zI} {hs : List zHd} {z : Int} {ty : List Nat} {a t b c : Nat} {fs : List Value} {v : Value} {V : zA} (J : zJ3 j M cs hs) (hi : cs[k]? = some (38, c, b, z)) (hk : k + 1 = k') (T : zTY z_tt ty h) (E : zE1 ty h) (ha : ty[a]? = some t) (he : h[a]? = some (.inr (c, fs))) (hb : b < fs.length) (g : zG ty V v) (hz : zst (z_tt t).2.2.2 (b : Int) (b : Int) V = true) (ms : List zMod) (hm : zcv ms t (b : Int) (b : Int) = true) (hno : zno ms = true) (hf : z_fit z v = true) (kk : ∀ h', zTY z_tt ty h' → zE1 ty h' → zFm ms ty h h' → h'[a]? = some (.inr (c, fs.set b v)) → (∀ q, q ≠ a → h'[q]? = h[q]?) → z_ok sx d j k' lo st h' Ψ) : z_ok sx d j k lo (v :: .ref a :: st) h Ψ := by
  obtain ⟨T', F'⟩ := zwf' (ms := ms) (b := b) T ha he hb g hz hm
  exact zh_put J hi hk he hb hf (kk _ T' (zE1_stable hno ty h _ T T' (T.len T') F' E) F' (zset_eq he) (fun q hq => zset_ne (Ne.symm hq)))
noncomputable def zUm : List zMod := [(20, 0, 0), (20, 9, 11)]
noncomputable def zNi (h : zH) (a : Nat) : Prop := ∃ fs : List Value, h[a]? = some (.inr (9, fs)) ∧ fs[9]? = some (.int 0)
theorem zNi.keep {ms : List zMod} {ty : List Nat} {h h' : zH} {a : Nat} (T' : zTY z_tt ty h') (ha : ty[a]? = some 20) (F : zFm ms ty h h') (hm : ¬ zIn ms 20 9) (H : zNi h a) : zNi h' a := by
  obtain ⟨fs, he, h9⟩ := H
  obtain ⟨fs', he', hl'⟩ := zcell0 (c := 9) (n := 23) T' ha rfl rfl rfl
  have := F.2 a 20 _ _ ha he he' 9 hm
  exact ⟨fs', he', this.trans h9⟩
theorem zJ_210 : zJ3 210 z_m210 z_c210 z_h210 := ⟨rfl, rfl, rfl⟩
set_option maxRecDepth 100000 in
theorem zS_210 {sx : zX} {ty : List Nat} {a d : Nat} {h : zH} (T : zTY z_tt ty h) (E : zE1 ty h) (ha : ty[a]? = some 20) : z_ok sx d 210 0 (lv_args 0 [.ref a]) [] h (zRq (fun v h' => v = none ∧ zTY z_tt ty h' ∧ zE1 ty h' ∧ zFm zUm ty h h' ∧ zNi h' a)) := by
  show z_ok sx d 210 0 [(0, .ref a)] [] h _
  obtain ⟨fs, he, hl⟩ := zcell0 (c := 9) (n := 23) T ha rfl rfl rfl
  obtain ⟨x9, g9, l9, u9⟩ := zfd0 (b := 9) (lo := 0) (hi := 400) T ha he (by omega) (by decide +kernel)
  refine zh zJ_210 (i := (2, 0, 0, 0)) rfl rfl (k' := 1) (lo' := [(0, .ref a)]) (st' := [.ref a]) (h' := h) rfl ?_
  refine zh zJ_210 (i := (0, 0, 0, 0)) rfl rfl (k' := 2) (lo' := [(0, .ref a)]) (st' := [.int (Int32.ofInt (0)), .ref a]) (h' := h) rfl ?_
  refine zputT zJ_210 (k' := 3) rfl rfl T E ha he (by omega) (zK0 (by decide) (by decide)) (by decide +kernel) zUm (by decide +kernel) (by decide +kernel) rfl (fun h1 T1 E1 F1 he1 hq1 => ?_)
  refine zh zJ_210 (i := (2, 0, 0, 0)) rfl rfl (k' := 4) (lo' := [(0, .ref a)]) (st' := [.ref a]) (h' := h1) rfl ?_
  refine zh zJ_210 (i := (2, 0, 0, 0)) rfl rfl (k' := 5) (lo' := [(0, .ref a)]) (st' := [.ref a, .ref a]) (h' := h1) rfl ?_
  refine zh_get zJ_210 (b := 9) (c := 9) (z := 0) rfl (k' := 6) rfl he1 ((List.getElem?_set_ne (by decide)).trans g9) ?_
  refine zputT zJ_210 (k' := 7) rfl rfl T1 E1 ha he1 (by simp only [List.length_set]; omega) (show zG ty (0, 0, 400) (.int x9) from ⟨x9, rfl, l9, u9⟩) (by decide +kernel) zUm (by decide +kernel) (by decide +kernel) rfl (fun h2 T2 E2 F2 he2 hq2 => ?_)
  refine zh zJ_210 (i := (2, 0, 0, 0)) rfl rfl (k' := 8) (lo' := [(0, .ref a)]) (st' := [.ref a]) (h' := h2) rfl ?_
  refine zh zJ_210 (i := (0, 0, 0, 0)) rfl rfl (k' := 9) (lo' := [(0, .ref a)]) (st' := [.int (Int32.ofInt (0)), .ref a]) (h' := h2) rfl ?_
  refine zputT zJ_210 (k' := 10) rfl rfl T2 E2 ha he2 (by simp only [List.length_set]; omega) (zK0 (by decide) (by decide)) (by decide +kernel) zUm (by decide +kernel) (by decide +kernel) rfl (fun h3 T3 E3 F3 he3 hq3 => ?_)
  refine zh zJ_210 (i := (2, 0, 0, 0)) rfl rfl (k' := 11) (lo' := [(0, .ref a)]) (st' := [.ref a]) (h' := h3) rfl ?_
  refine zh zJ_210 (i := (0, 0, 0, 0)) rfl rfl (k' := 12) (lo' := [(0, .ref a)]) (st' := [.int (Int32.ofInt (0)), .ref a]) (h' := h3) rfl ?_
  refine zputT zJ_210 (k' := 13) rfl rfl T3 E3 ha he3 (by simp only [List.length_set]; omega) (zK0 (by decide) (by decide)) (by decide +kernel) zUm (by decide +kernel) (by decide +kernel) rfl (fun h4 T4 E4 F4 he4 hq4 => ?_)
  refine zh_vret zJ_210 (a := 0) (b := 0) (z := 0) rfl ?_
  exact ⟨_, rfl, rfl, rfl, rfl, T4, E4, ((F1.tr zExt.rf F2).tr zExt.rf F3).tr zExt.rf F4, _, he4, (List.getElem?_set_ne (by decide)).trans (List.getElem?_set_self (by simp only [List.length_set]; omega))⟩
theorem zPS_mk {ty : List Nat} {a : Nat} {h : zH} (T : zTY z_tt ty h) (E1 : zE1 ty h) (ha : ty[a]? = some 20) : ∃ (w b E P Q D S : Nat) (g : Nat → Int32), zPS ty h a w b E P Q D S g h := by
  obtain ⟨fs, he, hl⟩ := zcell0 (c := 9) (n := 23) T ha rfl rfl rfl
  obtain ⟨w, f1, hw⟩ := zfd2 (b := 1) (u := 21) T ha he (by omega) (by decide +kernel)
  obtain ⟨b, f8, hb⟩ := zfd2 (b := 8) (u := 26) T ha he (by omega) (by decide +kernel)
  obtain ⟨g, hg⟩ := zcell1 (n := 2086) T hw rfl rfl
  obtain ⟨x11, g11, l11, u11⟩ := zfd0 (b := 11) (lo := 0) (hi := 400) T ha he (by omega) (by decide +kernel)
  obtain ⟨x10, g10, l10, u10⟩ := zfd0 (b := 10) (lo := 0) (hi := 400) T ha he (by omega) (by decide +kernel)
  obtain ⟨x12, g12, l12, u12⟩ := zfd0 (b := 12) (lo := 0) (hi := 400) T ha he (by omega) (by decide +kernel)
  obtain ⟨x13, g13, l13, u13⟩ := zfd0 (b := 13) (lo := 0) (hi := 6) T ha he (by omega) (by decide +kernel)
  obtain ⟨x16, g16, l16, u16⟩ := zfd0 (b := 16) (lo := 0) (hi := 400) T ha he (by omega) (by decide +kernel)
  exact ⟨w, b, x11.toInt.toNat, x10.toInt.toNat, x12.toInt.toNat, x13.toInt.toNat, x16.toInt.toNat, g, T, E1, zFm.rf, ha, hw, hb, hg, fs, he, hl, f1, f8, ⟨x11, g11, by omega⟩, ⟨x10, g10, by omega⟩, ⟨x12, g12, by omega⟩, ⟨x13, g13, by omega⟩, ⟨x16, g16, by omega⟩⟩
set_option maxRecDepth 100000 in
theorem zNin (ms : List zMod) (t i : Nat) (h : ms.all (fun m => decide (m.1 ≠ t) || (decide ((i : Int) < m.2.1) || decide (m.2.2 < (i : Int)))) = true) : ¬ zIn ms t i := by
  rintro ⟨m, hm, m1, m2, m3⟩
  have := List.all_eq_true.mp h m hm
  rw [Bool.or_eq_true, Bool.or_eq_true, decide_eq_true_eq, decide_eq_true_eq, decide_eq_true_eq] at this
  omega
set_option maxRecDepth 100000 in
theorem zS_230a {sx : zX} {ty : List Nat} {a d : Nat} {h : zH} (hd : 35 ≤ d) (T : zTY z_tt ty h) (E : zE1 ty h) (ha : ty[a]? = some 20) : z_ok sx d 230 0 (lv_args 0 [.ref a, .int (Int32.ofInt (0))]) [] h (zRq (fun v h' => ∃ (c : Int32) (h1 : zH) (w b En P Q D S : Nat) (g : Nat → Int32), v = some (.int c) ∧ zFm zUm ty h h1 ∧ zPS ty h1 a w b En P Q D S g h' ∧ zNi h' a ∧ (c.toInt = -1 ∨ ∃ N : Nat, N ≤ 12 ∧ c.toInt = (N : Int) ∧ ∀ l, l < N → ∃ s e, zLd g l s e))) := by
  show z_ok sx d 230 0 [(0, .ref a), (1, .int (Int32.ofInt (0)))] [] h _
  refine zh zJ_230 (i := (2, 0, 0, 0)) rfl rfl (k' := 1) (lo' := [(0, .ref a), (1, .int (Int32.ofInt (0)))]) (st' := [.ref a]) (h' := h) rfl ?_
  obtain ⟨fs, he, hl⟩ := zcell0 (c := 9) (n := 23) T ha rfl rfl rfl
  refine zh_run (rest := []) (as := [.ref a]) zJ_230 (i := (54, 210, 0, 9)) rfl (by decide) (zcal54 (xs := []) (by omega) rfl rfl he rfl (Nat.le_of_ble_eq_true rfl) (M' := z_m210) rfl (Nat.le_of_ble_eq_true rfl)) (zS_210 T E ha) (fun o h1 x y q => ?_)
  obtain ⟨v, rfl, rfl, rfl, rfl, T1, E1, F1, N1⟩ := q
  refine ⟨_, rfl, rfl, rfl, ?_⟩
  obtain ⟨w, b, En, P, Q, D, S, g, H⟩ := zPS_mk T1 E1 ha
  refine z_ok.imp (zS_230 (by omega) H) (fun o h2 x y q => ?_)
  obtain ⟨v, rfl, rfl, rfl, c, P', Q', D', S', g', rfl, H', hc⟩ := q
  exact ⟨_, rfl, rfl, rfl, c, h1, w, b, En, P', Q', D', S', g', rfl, F1, H', N1.keep H'.1 ha H'.2.2.1 (zNin _ _ _ (by decide +kernel)), hc⟩
theorem zJ_176 : zJ3 176 z_m176 z_c176 z_h176 := ⟨rfl, rfl, rfl⟩
set_option maxRecDepth 100000 in
theorem zS_176a {sx : zX} {a d : Nat} {h : zH} (k : Int32) : z_ok sx d 176 0 (lv_args 0 [.ref a, .int (Int32.ofInt (0)), .int k]) [] h (zRq (fun v h' => v = some (.int (Int32.ofInt (0))) ∧ h' = h)) := by
  show z_ok sx d 176 0 [(0, .ref a), (1, .int (Int32.ofInt (0))), (2, .int k)] [] h _
  refine zh zJ_176 (i := (1, 1, 0, 0)) rfl rfl (k' := 1) (lo' := [(0, .ref a), (1, .int (Int32.ofInt (0))), (2, .int k)]) (st' := [.int (Int32.ofInt (0))]) (h' := h) rfl ?_
  refine zh_if zJ_176 (a := 5) (b := 0) (z := 0) rfl (fun hc1 => ?_) (fun hc1 => ?_)
  · refine zh zJ_176 (i := (1, 1, 0, 0)) rfl rfl (k' := 6) (lo' := [(0, .ref a), (1, .int (Int32.ofInt (0))), (2, .int k)]) (st' := [.int (Int32.ofInt (0))]) (h' := h) rfl ?_
    refine zh_iret zJ_176 (a := 0) (b := 0) (z := 0) rfl (Or.inr ⟨rfl, Or.inl rfl⟩) ?_
    exact ⟨_, rfl, rfl, rfl, rfl, rfl⟩
  · exact absurd (show z_cmp 0 (Int32.ofInt (0)) 0 = true from rfl) hc1
set_option maxRecDepth 100000 in
theorem zS_176b {sx : zX} {ty : List Nat} {a d : Nat} {h : zH} (k : Int32) (T : zTY z_tt ty h) (E : zE1 ty h) (ha : ty[a]? = some 20) : z_ok sx d 176 0 (lv_args 0 [.ref a, .int (Int32.ofInt (1)), .int k]) [] h (zRq (fun v h' => v = some (.int (Int32.ofInt (1))) ∧ zTY z_tt ty h' ∧ zE1 ty h' ∧ zFm [(20, 0, 0)] ty h h')) := by
  show z_ok sx d 176 0 [(0, .ref a), (1, .int (Int32.ofInt (1))), (2, .int k)] [] h _
  obtain ⟨fs, he, hl⟩ := zcell0 (c := 9) (n := 23) T ha rfl rfl rfl
  refine zh zJ_176 (i := (1, 1, 0, 0)) rfl rfl (k' := 1) (lo' := [(0, .ref a), (1, .int (Int32.ofInt (1))), (2, .int k)]) (st' := [.int (Int32.ofInt (1))]) (h' := h) rfl ?_
  refine zh_if zJ_176 (a := 5) (b := 0) (z := 0) rfl (fun hc2 => ?_) (fun hc2 => ?_)
  · exact absurd hc2 (by decide)
  · refine zh zJ_176 (i := (2, 0, 0, 0)) rfl rfl (k' := 3) (lo' := [(0, .ref a), (1, .int (Int32.ofInt (1))), (2, .int k)]) (st' := [.ref a]) (h' := h) rfl ?_
    refine zh zJ_176 (i := (1, 2, 0, 0)) rfl rfl (k' := 4) (lo' := [(0, .ref a), (1, .int (Int32.ofInt (1))), (2, .int k)]) (st' := [.int k, .ref a]) (h' := h) rfl ?_
    refine zputT zJ_176 (k' := 5) rfl rfl T E ha he (by omega) (zFull_ok k) (by decide +kernel) [(20, 0, 0)] (by decide +kernel) (by decide +kernel) rfl (fun h1 T1 E1 F1 he1 hq1 => ?_)
    refine zh zJ_176 (i := (1, 1, 0, 0)) rfl rfl (k' := 6) (lo' := [(0, .ref a), (1, .int (Int32.ofInt (1))), (2, .int k)]) (st' := [.int (Int32.ofInt (1))]) (h' := h1) rfl ?_
    refine zh_iret zJ_176 (a := 0) (b := 0) (z := 0) rfl (Or.inr ⟨rfl, Or.inr rfl⟩) ?_
    exact ⟨_, rfl, rfl, rfl, rfl, T1, E1, F1⟩
theorem zJ_232 : zJ3 232 z_m232 z_c232 z_h232 := ⟨rfl, rfl, rfl⟩
noncomputable def zQl (ty : List Nat) (h0 : zH) (a : Nat) (gs : List Value) (w : Nat) (g : Nat → Int32) (k : Nat) (h : zH) : Prop := zTY z_tt ty h ∧ zFm [(21, 388, 1236)] ty h0 h ∧ h[a]? = some (.inr (9, gs)) ∧ ∃ f : Nat → Int32, h[w]? = some (.inl (0, (2086, .inl f))) ∧ (∀ j, j < k → f (388 + j) = g (1237 + j)) ∧ ∀ j, 1237 ≤ j → f j = g j
set_option maxRecDepth 100000 in
theorem zLp_232 {sx : zX} {d : Nat} {Ψ : zO → zH → Nat → Nat → Prop} {ty : List Nat} {h0 : zH} {a w : Nat} {gs : List Value} {g : Nat → Int32} {r : Int32} (ha : ty[a]? = some 20) (hw : ty[w]? = some 21) (hg1 : gs[1]? = some (.ref w)) (hr : 0 ≤ (g 1237).toInt ∧ (g 1237).toInt ≤ 12) (kk : ∀ (x : Int32) (h : zH), zQl ty h0 a gs w g 849 h → z_ok sx d 232 47 [(2, .int x), (1, .int r), (0, .ref a)] [] h Ψ) {h : zH} (q : zQl ty h0 a gs w g 0 h) : z_ok sx d 232 30 [(2, .int (Int32.ofInt (0))), (1, .int r), (0, .ref a)] [] h Ψ := by
  refine zloop (fun x => [(2, .int x), (1, .int r), (0, .ref a)]) 849 (zQl ty h0 a gs w g) (fun i x h hx hi q kk => ?_) (fun x h hx q => ?_) 849 0 _ h rfl rfl q
  · obtain ⟨T, F, he, f, hf, hf1, hf2⟩ := q
    refine zh zJ_232 (i := (1, 2, 0, 0)) rfl rfl (k' := 31) (lo' := [(2, .int x), (1, .int r), (0, .ref a)]) (st' := [.int x]) (h' := h) rfl ?_
    refine zh zJ_232 (i := (0, 0, 0, 849)) rfl rfl (k' := 32) (lo' := [(2, .int x), (1, .int r), (0, .ref a)]) (st' := [.int (Int32.ofInt (849)), .int x]) (h' := h) rfl ?_
    refine zh_icmp zJ_232 (a := 47) (b := 3) (z := 0) rfl (fun hc => ?_) (fun hc => ?_)
    · exact absurd (zcmp_ge.mp hc) (by rw [hx, z_of32 (by omega) (by omega)]; omega)
    have e1 : (Int32.ofInt (388) + x).toInt = ((388 + i : Nat) : Int) := (by rw [zI_add (zI_c (by decide) (by decide)) hx (by omega) (by omega)]; omega)
    have e2 : (Int32.ofInt (1237) + x).toInt = ((1237 + i : Nat) : Int) := (by rw [zI_add (zI_c (by decide) (by decide)) hx (by omega) (by omega)]; omega)
    refine zh zJ_232 (i := (2, 0, 0, 0)) rfl rfl (k' := 34) (lo' := [(2, .int x), (1, .int r), (0, .ref a)]) (st' := [.ref a]) (h' := h) rfl ?_
    refine zh_get zJ_232 (a := a) (b := 1) (c := 9) (z := 0) rfl (k' := 35) rfl he hg1 ?_
    refine zh zJ_232 (i := (0, 0, 0, 388)) rfl rfl (k' := 36) (lo' := [(2, .int x), (1, .int r), (0, .ref a)]) (st' := [.int (Int32.ofInt (388)), .ref w]) (h' := h) rfl ?_
    refine zh zJ_232 (i := (1, 2, 0, 0)) rfl rfl (k' := 37) (lo' := [(2, .int x), (1, .int r), (0, .ref a)]) (st' := [.int x, .int (Int32.ofInt (388)), .ref w]) (h' := h) rfl ?_
    refine zh zJ_232 (i := (8, 0, 0, 0)) rfl rfl (k' := 38) (lo' := [(2, .int x), (1, .int r), (0, .ref a)]) (st' := [.int ((Int32.ofInt (388)) + x), .ref w]) (h' := h) rfl ?_
    refine zh zJ_232 (i := (2, 0, 0, 0)) rfl rfl (k' := 39) (lo' := [(2, .int x), (1, .int r), (0, .ref a)]) (st' := [.ref a, .int ((Int32.ofInt (388)) + x), .ref w]) (h' := h) rfl ?_
    refine zh_get zJ_232 (a := a) (b := 1) (c := 9) (z := 0) rfl (k' := 40) rfl he hg1 ?_
    refine zh zJ_232 (i := (0, 0, 0, 1237)) rfl rfl (k' := 41) (lo' := [(2, .int x), (1, .int r), (0, .ref a)]) (st' := [.int (Int32.ofInt (1237)), .ref w, .int ((Int32.ofInt (388)) + x), .ref w]) (h' := h) rfl ?_
    refine zh zJ_232 (i := (1, 2, 0, 0)) rfl rfl (k' := 42) (lo' := [(2, .int x), (1, .int r), (0, .ref a)]) (st' := [.int x, .int (Int32.ofInt (1237)), .ref w, .int ((Int32.ofInt (388)) + x), .ref w]) (h' := h) rfl ?_
    refine zh zJ_232 (i := (8, 0, 0, 0)) rfl rfl (k' := 43) (lo' := [(2, .int x), (1, .int r), (0, .ref a)]) (st' := [.int ((Int32.ofInt (1237)) + x), .ref w, .int ((Int32.ofInt (388)) + x), .ref w]) (h' := h) rfl ?_
    refine zh_iald zJ_232 (z := 0) rfl (k' := 44) rfl hf (by omega) (by omega) ?_
    rw [znat e2, hf2 (1237 + i) (by omega)]
    refine zh_iast zJ_232 (z := 0) rfl (k' := 45) rfl hf (by omega) (by omega) ?_
    rw [znat e1]
    have hv : ∀ r ∈ (z_tt 21).2.2.2, r.1 ≤ ((388 + i : Nat) : Int) → ((388 + i : Nat) : Int) ≤ r.2.1 → zG ty r.2.2 (.int (g (1237 + i))) := by
      by_cases h0i : i = 0
      · subst h0i
        exact zst_ok (a := (0, 0, 12)) (ilo := 388) (ihi := 388) (by decide +kernel) ⟨_, rfl, hr.1, hr.2⟩ (by omega) (by omega)
      · exact zst_ok (a := zFull) (ilo := 389) (ihi := 1236) (by decide +kernel) (zFull_ok _) (by omega) (by omega)
    obtain ⟨T', F'⟩ := zwr (ms := [(21, 388, 1236)]) T hw hf (i := 388 + i) (by omega) hv (zcv_ok (lo := 388) (hi := 1236) (by decide +kernel) (by omega) (by omega))
    have hn : w ≠ a := fun e => by rw [e, ha] at hw; cases hw
    have he' := (zset_ne (h := h) (e := .inl (0, (2086, .inl (upd f (388 + i) (g (1237 + i)))))) hn).trans he
    have hw' := zset_eq (e := .inl (0, (2086, .inl (upd f (388 + i) (g (1237 + i)))))) hf
    generalize h.set w (.inl (0, (2086, .inl (upd f (388 + i) (g (1237 + i)))))) = h9 at T' F' he' hw' ⊢
    refine zh zJ_232 (i := (7, 2, 0, 1)) rfl rfl (k' := 46) (lo' := [(2, .int (x + Int32.ofInt (1))), (1, .int r), (0, .ref a)]) (st' := []) (h' := h9) rfl ?_
    refine zh zJ_232 (i := (30, 30, 0, 0)) rfl rfl (k' := 30) (lo' := [(2, .int (x + Int32.ofInt (1))), (1, .int r), (0, .ref a)]) (st' := []) (h' := h9) rfl ?_
    refine kk _ _ (zinc hx (by omega)) ⟨T', F.tr zExt.rf F', he', _, hw', fun j hj => ?_, fun j hj => by rw [zupd_ne (by omega)]; exact hf2 j hj⟩
    by_cases hji : j = i
    · subst hji; rw [zupd_at]
    · rw [zupd_ne (by omega)]; exact hf1 j (by omega)
  · refine zh zJ_232 (i := (1, 2, 0, 0)) rfl rfl (k' := 31) (lo' := [(2, .int x), (1, .int r), (0, .ref a)]) (st' := [.int x]) (h' := h) rfl ?_
    refine zh zJ_232 (i := (0, 0, 0, 849)) rfl rfl (k' := 32) (lo' := [(2, .int x), (1, .int r), (0, .ref a)]) (st' := [.int (Int32.ofInt (849)), .int x]) (h' := h) rfl ?_
    refine zh_icmp zJ_232 (a := 47) (b := 3) (z := 0) rfl (fun hc => ?_) (fun hc => ?_)
    · exact kk x h q
    · exact absurd (zcmp_ge.mpr (by rw [hx, z_of32 (by omega) (by omega)]; omega)) hc
noncomputable def zLm : List zMod := [(20, 0, 0), (20, 7, 7), (20, 9, 14), (20, 16, 16), (21, 0, 2085)]
noncomputable def zWide (ms ms' : List zMod) : Bool := ms.all (fun m => zcv ms' m.1 m.2.1 m.2.2)
theorem zFm.wide {ms ms' : List zMod} {ty : List Nat} {h h' : zH} (F : zFm ms ty h h') (hw : zWide ms ms' = true) : zFm ms' ty h h' := F.mono (fun t n hin => by
  obtain ⟨m, hm, m1, m2, m3⟩ := hin
  have := zcv_ok (List.all_eq_true.mp hw m hm) m2 m3
  rw [← m1]
  exact this)
theorem zPs_Px {g f : Nat → Int32} (hfg : ∀ i, i < 400 → f (437 + 2 * i) = g (1286 + 2 * i)) : ∀ {n i t t' : Nat}, zPs g n i t t' → zPx f n i t
  | 0, _, _, _, _ => trivial
  | n + 1, i, t, t', h => by
    obtain ⟨a1, a2⟩ := h
    refine ⟨a1, ?_⟩
    rw [hfg i a1]
    split
    · next h3 => rw [if_pos h3] at a2; exact ⟨a2.1, zPs_Px hfg a2.2⟩
    · next h3 =>
      rw [if_neg h3] at a2
      split
      · next h4 => rw [if_pos h4] at a2; exact ⟨a2.1, zPs_Px hfg a2.2⟩
      · next h4 => rw [if_neg h4] at a2; exact ⟨a2.1, zPs_Px hfg a2.2⟩
theorem zLT_of {g f : Nat → Int32} {N : Nat} (hN : N ≤ 12) (h0 : (f 388).toInt = (N : Int)) (hfg : ∀ j, 1 ≤ j → j < 849 → f (388 + j) = g (1237 + j)) (hl : ∀ l, l < N → ∃ s e, zLd g l s e) : zLT f := by
  refine ⟨by omega, fun l hl2 => ?_⟩
  obtain ⟨s, e, h1, h2, h3, t', h4⟩ := hl l (by omega)
  have a1 : f (391 + 4 * l) = g (1240 + 4 * l) := by
    have := hfg (3 + 4 * l) (by omega) (by omega)
    rw [show 388 + (3 + 4 * l) = 391 + 4 * l by omega, show 1237 + (3 + 4 * l) = 1240 + 4 * l by omega] at this
    exact this
  have a2 : f (392 + 4 * l) = g (1241 + 4 * l) := by
    have := hfg (4 + 4 * l) (by omega) (by omega)
    rw [show 388 + (4 + 4 * l) = 392 + 4 * l by omega, show 1237 + (4 + 4 * l) = 1241 + 4 * l by omega] at this
    exact this
  unfold zLi
  rw [a1, a2, h1, h2, show ((e : Int) - (s : Int)).toNat = e - s by omega, show ((s : Int)).toNat = s by omega]
  exact ⟨by omega, zPs_Px (fun i hi => by
    have := hfg (49 + 2 * i) (by omega) (by omega)
    rw [show 388 + (49 + 2 * i) = 437 + 2 * i by omega, show 1237 + (49 + 2 * i) = 1286 + 2 * i by omega] at this
    exact this) h4⟩
set_option maxRecDepth 100000 in
theorem zS_232 {sx : zX} {ty : List Nat} {a d : Nat} {h : zH} (hd : 36 ≤ d) (T : zTY z_tt ty h) (E : zE1 ty h) (ha : ty[a]? = some 20) : z_ok sx d 232 0 (lv_args 0 [.ref a]) [] h (zRq (fun v h' => (∃ c : Int32, v = some (.int c)) ∧ zTY z_tt ty h' ∧ zE1 ty h' ∧ zFm zLm ty h h' ∧ zNi h' a)) := by
  show z_ok sx d 232 0 [(0, .ref a)] [] h _
  obtain ⟨fs0, he0, hl0⟩ := zcell0 (c := 9) (n := 23) T ha rfl rfl rfl
  refine zh zJ_232 (i := (2, 0, 0, 0)) rfl rfl (k' := 1) (lo' := [(0, .ref a)]) (st' := [.ref a]) (h' := h) rfl ?_
  refine zh zJ_232 (i := (0, 0, 0, 0)) rfl rfl (k' := 2) (lo' := [(0, .ref a)]) (st' := [.int (Int32.ofInt (0)), .ref a]) (h' := h) rfl ?_
  refine zh_run (rest := []) (as := [.ref a, .int (Int32.ofInt (0))]) zJ_232 (i := (54, 230, 1, 9)) rfl (by decide) (zcal54 (xs := [.int (Int32.ofInt (0))]) (by omega) rfl rfl he0 rfl (Nat.le_of_ble_eq_true rfl) (M' := z_m230) rfl (Nat.le_of_ble_eq_true rfl)) (zS_230a (by omega) T E ha) (fun o hh x y q => ?_)
  obtain ⟨v, rfl, rfl, rfl, c, h1, w, b, En, P, Q, D, S, g, rfl, F1, ⟨T2, E2, F2, -, hw, hb, hg, fs, he, hl, f1, f8, ⟨x11, g11, e11⟩, ⟨x10, g10, e10⟩, ⟨x12, g12, e12⟩, -⟩, N2, hc⟩ := q
  refine ⟨_, rfl, rfl, rfl, ?_⟩
  have F0 : zFm zLm ty h hh := (F1.wide (by decide +kernel)).tr zExt.rf (F2.wide (by decide +kernel))
  show z_ok sx d 232 3 [(0, .ref a)] [.int c] hh _
  refine zh zJ_232 (i := (4, 1, 0, 0)) rfl rfl (k' := 4) (lo' := [(1, .int c), (0, .ref a)]) (st' := []) (h' := hh) rfl ?_
  refine zh zJ_232 (i := (2, 0, 0, 0)) rfl rfl (k' := 5) (lo' := [(1, .int c), (0, .ref a)]) (st' := [.ref a]) (h' := hh) rfl ?_
  refine zh zJ_232 (i := (1, 1, 0, 0)) rfl rfl (k' := 6) (lo' := [(1, .int c), (0, .ref a)]) (st' := [.int c, .ref a]) (h' := hh) rfl ?_
  refine zh_if zJ_232 (a := 10) (b := 3) (z := 0) rfl (fun hc3 => ?_) (fun hc3 => ?_)
  · have h0c : 0 ≤ c.toInt := zcmp_ge.mp hc3
    obtain ⟨N, hN, eN, hlines⟩ := hc.resolve_left (by omega)
    refine zh zJ_232 (i := (0, 0, 0, -1)) rfl rfl (k' := 11) (lo' := [(1, .int c), (0, .ref a)]) (st' := [.int (Int32.ofInt (-1)), .ref a]) (h' := hh) rfl ?_
    refine zputT zJ_232 (k' := 12) rfl rfl T2 E2 ha he (by omega) (zK0 (by decide) (by decide)) (by decide +kernel) [(20, 14, 14)] (by decide +kernel) (by decide +kernel) rfl (fun h3 T3 E3 F3 he3 hq3 => ?_)
    have hn : w ≠ a := fun e => by rw [e, ha] at hw; cases hw
    have hg3 := (hq3 w hn).trans hg
    have N3 := N2.keep T3 ha F3 (zNin _ _ _ (by decide +kernel))
    refine zh zJ_232 (i := (2, 0, 0, 0)) rfl rfl (k' := 13) (lo' := [(1, .int c), (0, .ref a)]) (st' := [.ref a]) (h' := h3) rfl ?_
    refine zh zJ_232 (i := (1, 1, 0, 0)) rfl rfl (k' := 14) (lo' := [(1, .int c), (0, .ref a)]) (st' := [.int c, .ref a]) (h' := h3) rfl ?_
    refine zh_if zJ_232 (a := 17) (b := 3) (z := 0) rfl (fun hc4 => ?_) (fun hc4 => ?_)
    · refine zh zJ_232 (i := (0, 0, 0, 0)) rfl rfl (k' := 18) (lo' := [(1, .int c), (0, .ref a)]) (st' := [.int (Int32.ofInt (0)), .ref a]) (h' := h3) rfl ?_
      refine zh zJ_232 (i := (0, 0, 0, 1)) rfl rfl (k' := 19) (lo' := [(1, .int c), (0, .ref a)]) (st' := [.int (Int32.ofInt (1)), .int (Int32.ofInt (0)), .ref a]) (h' := h3) rfl ?_
      refine zh_run (rest := []) (as := [.ref a, .int (Int32.ofInt (0)), .int (Int32.ofInt (1))]) zJ_232 (i := (54, 176, 2, 9)) rfl (by decide) (zcal54 (xs := [.int (Int32.ofInt (1)), .int (Int32.ofInt (0))]) (by omega) rfl rfl he3 rfl (Nat.le_of_ble_eq_true rfl) (M' := z_m176) rfl (Nat.le_of_ble_eq_true rfl)) (zS_176a _) (fun o hh x y q => ?_)
      obtain ⟨v, rfl, rfl, rfl, rfl, rfl⟩ := q
      refine ⟨_, rfl, rfl, rfl, ?_⟩
      show z_ok sx d 232 20 [(1, .int c), (0, .ref a)] [.int (Int32.ofInt (0))] hh _
      refine zh_if zJ_232 (a := 23) (b := 0) (z := 0) rfl (fun hc5 => ?_) (fun hc5 => ?_)
      · have f13 := (List.getElem?_set_ne (l := fs) (i := 14) (j := 1) (a := .int (Int32.ofInt (-1))) (by decide)).trans f1
        refine zh zJ_232 (i := (2, 0, 0, 0)) rfl rfl (k' := 24) (lo' := [(1, .int c), (0, .ref a)]) (st' := [.ref a]) (h' := hh) rfl ?_
        refine zh_get zJ_232 (b := 1) (c := 9) (z := 0) rfl (k' := 25) rfl he3 f13 ?_
        refine zh zJ_232 (i := (0, 0, 0, 1237)) rfl rfl (k' := 26) (lo' := [(1, .int c), (0, .ref a)]) (st' := [.int (Int32.ofInt (1237)), .ref w]) (h' := hh) rfl ?_
        refine zh zJ_232 (i := (1, 1, 0, 0)) rfl rfl (k' := 27) (lo' := [(1, .int c), (0, .ref a)]) (st' := [.int c, .int (Int32.ofInt (1237)), .ref w]) (h' := hh) rfl ?_
        obtain ⟨T4, F4⟩ := zwr (ms := [(21, 1237, 2085)]) T3 hw hg3 (i := 1237) (x := c) (by omega) (zst_ok (a := zFull) (ilo := 1237) (ihi := 2085) (by decide +kernel) (zFull_ok _) (by omega) (by omega)) (zcv_ok (lo := 1237) (hi := 2085) (by decide +kernel) (by omega) (by omega))
        have E4 := zE1_stable (ms := [(21, 1237, 2085)]) (by decide +kernel) ty hh _ T3 T4 (T3.len T4) F4 E3
        have he4 := (zset_ne (h := hh) (e := .inl (0, (2086, .inl (upd g 1237 c)))) hn).trans he3
        have hg4 := zset_eq (e := .inl (0, (2086, .inl (upd g 1237 c)))) hg3
        have N4 := N3.keep T4 ha F4 (zNin _ _ _ (by decide +kernel))
        refine zh_iast zJ_232 (z := 0) rfl (k' := 28) rfl hg3 (by decide) (by decide) ?_
        rw [show (Int32.ofInt (1237)).toNatClampNeg = 1237 from by decide +kernel]
        generalize hh.set w (.inl (0, (2086, .inl (upd g 1237 c)))) = h4 at T4 F4 E4 he4 hg4 N4 ⊢
        refine zh zJ_232 (i := (0, 0, 0, 0)) rfl rfl (k' := 29) (lo' := [(1, .int c), (0, .ref a)]) (st' := [.int (Int32.ofInt (0))]) (h' := h4) rfl ?_
        refine zh zJ_232 (i := (4, 2, 0, 0)) rfl rfl (k' := 30) (lo' := [(2, .int (Int32.ofInt (0))), (1, .int c), (0, .ref a)]) (st' := []) (h' := h4) rfl ?_
        refine zLp_232 (g := upd g 1237 c) (h0 := h4) ha hw f13 (by rw [zupd_at]; omega) (fun x h5 q => ?_) ⟨T4, zFm.rf, he4, _, hg4, fun j hj => absurd hj (Nat.not_lt_zero _), fun j _ => rfl⟩
        obtain ⟨T5, F5, he5, f, hf5, q1, q2⟩ := q
        have N5 := N4.keep T5 ha F5 (zNin _ _ _ (by decide +kernel))
        have LT : zLT f := zLT_of (g := g) hN (by have := q1 0 (by omega); rw [zupd_at] at this; rw [this]; exact eN) (fun j j1 j2 => by rw [q1 j j2, zupd_ne (by omega)]) hlines
        have E5 : zE1 ty h5 := ⟨E4.1, fun b9 t9 n9 f9 hb9 hz hbf => by
          rcases hz with rfl | rfl | rfl
          · have e := E4.1 b9 w 21 (by omega) (by omega) hb9 hw
            subst e
            rw [hf5] at hbf
            cases hbf
            exact LT
          · exact zEt_keep T4 T5 F5 hb9 (Or.inr (Or.inl rfl)) hbf (fun i h1 h2 => znt_ok (by decide +kernel) h1 h2) E4.2
          · exact zEt_keep T4 T5 F5 hb9 (Or.inr (Or.inr rfl)) hbf (fun i h1 h2 => znt_ok (by decide +kernel) h1 h2) E4.2⟩
        refine zh zJ_232 (i := (2, 0, 0, 0)) rfl rfl (k' := 48) (lo' := [(2, .int x), (1, .int c), (0, .ref a)]) (st' := [.ref a]) (h' := h5) rfl ?_
        refine zh_get zJ_232 (b := 1) (c := 9) (z := 0) rfl (k' := 49) rfl he5 f13 ?_
        refine zh zJ_232 (i := (0, 0, 0, 3)) rfl rfl (k' := 50) (lo' := [(2, .int x), (1, .int c), (0, .ref a)]) (st' := [.int (Int32.ofInt (3)), .ref w]) (h' := h5) rfl ?_
        refine zh zJ_232 (i := (0, 0, 0, 1)) rfl rfl (k' := 51) (lo' := [(2, .int x), (1, .int c), (0, .ref a)]) (st' := [.int (Int32.ofInt (1)), .int (Int32.ofInt (3)), .ref w]) (h' := h5) rfl ?_
        obtain ⟨T6, F6⟩ := zwr (ms := [(21, 2, 3)]) T5 hw hf5 (i := 3) (x := Int32.ofInt (1)) (by omega) (zst_ok (a := zFull) (ilo := 2) (ihi := 3) (by decide +kernel) (zFull_ok _) (by omega) (by omega)) (zcv_ok (lo := 2) (hi := 3) (by decide +kernel) (by omega) (by omega))
        have E6 := zE1_stable (ms := [(21, 2, 3)]) (by decide +kernel) ty h5 _ T5 T6 (T5.len T6) F6 E5
        have he6 := (zset_ne (h := h5) (e := .inl (0, (2086, .inl (upd f 3 (Int32.ofInt (1)))))) hn).trans he5
        have N6 := N5.keep T6 ha F6 (zNin _ _ _ (by decide +kernel))
        refine zh_iast zJ_232 (z := 0) rfl (k' := 52) rfl hf5 (by decide) (by decide) ?_
        rw [show (Int32.ofInt (3)).toNatClampNeg = 3 from by decide +kernel]
        generalize h5.set w (.inl (0, (2086, .inl (upd f 3 (Int32.ofInt (1)))))) = h6 at T6 F6 E6 he6 N6 ⊢
        refine zh zJ_232 (i := (2, 0, 0, 0)) rfl rfl (k' := 53) (lo' := [(2, .int x), (1, .int c), (0, .ref a)]) (st' := [.ref a]) (h' := h6) rfl ?_
        refine zh zJ_232 (i := (0, 0, 0, 0)) rfl rfl (k' := 54) (lo' := [(2, .int x), (1, .int c), (0, .ref a)]) (st' := [.int (Int32.ofInt (0)), .ref a]) (h' := h6) rfl ?_
        refine zputT zJ_232 (k' := 55) rfl rfl T6 E6 ha he6 (by simp only [List.length_set]; omega) (zK0 (by decide) (by decide)) (by decide +kernel) [(20, 7, 7)] (by decide +kernel) (by decide +kernel) rfl (fun h7 T7 E7 F7 he7 hq7 => ?_)
        have N7 := N6.keep T7 ha F7 (zNin _ _ _ (by decide +kernel))
        refine zh zJ_232 (i := (1, 1, 0, 0)) rfl rfl (k' := 56) (lo' := [(2, .int x), (1, .int c), (0, .ref a)]) (st' := [.int c]) (h' := h7) rfl ?_
        refine zh_iret zJ_232 (a := 0) (b := 0) (z := 0) rfl (Or.inl rfl) ?_
        exact ⟨_, rfl, rfl, rfl, ⟨_, rfl⟩, T7, E7, ((((F0.tr zExt.rf (F3.wide (by decide +kernel))).tr zExt.rf (F4.wide (by decide +kernel))).tr zExt.rf (F5.wide (by decide +kernel))).tr zExt.rf (F6.wide (by decide +kernel))).tr zExt.rf (F7.wide (by decide +kernel)), N7⟩
      · exact absurd (show z_cmp 0 (Int32.ofInt (0)) 0 = true from rfl) hc5
    · exact absurd hc3 hc4
  · refine zh zJ_232 (i := (2, 0, 0, 0)) rfl rfl (k' := 8) (lo' := [(1, .int c), (0, .ref a)]) (st' := [.ref a, .ref a]) (h' := hh) rfl ?_
    refine zh_get zJ_232 (b := 12) (c := 9) (z := 0) rfl (k' := 9) rfl he g12 ?_
    refine zh zJ_232 (i := (30, 11, 0, 0)) rfl rfl (k' := 11) (lo' := [(1, .int c), (0, .ref a)]) (st' := [.int x12, .ref a]) (h' := hh) rfl ?_
    refine zputT zJ_232 (k' := 12) rfl rfl T2 E2 ha he (by omega) (zFull_ok x12) (by decide +kernel) [(20, 14, 14)] (by decide +kernel) (by decide +kernel) rfl (fun h3 T3 E3 F3 he3 hq3 => ?_)
    have N3 := N2.keep T3 ha F3 (zNin _ _ _ (by decide +kernel))
    refine zh zJ_232 (i := (2, 0, 0, 0)) rfl rfl (k' := 13) (lo' := [(1, .int c), (0, .ref a)]) (st' := [.ref a]) (h' := h3) rfl ?_
    refine zh zJ_232 (i := (1, 1, 0, 0)) rfl rfl (k' := 14) (lo' := [(1, .int c), (0, .ref a)]) (st' := [.int c, .ref a]) (h' := h3) rfl ?_
    refine zh_if zJ_232 (a := 17) (b := 3) (z := 0) rfl (fun hc6 => ?_) (fun hc6 => ?_)
    · exact absurd hc6 hc3
    · refine zh zJ_232 (i := (0, 0, 0, 1)) rfl rfl (k' := 16) (lo' := [(1, .int c), (0, .ref a)]) (st' := [.int (Int32.ofInt (1)), .ref a]) (h' := h3) rfl ?_
      refine zh zJ_232 (i := (30, 18, 0, 0)) rfl rfl (k' := 18) (lo' := [(1, .int c), (0, .ref a)]) (st' := [.int (Int32.ofInt (1)), .ref a]) (h' := h3) rfl ?_
      refine zh zJ_232 (i := (0, 0, 0, 1)) rfl rfl (k' := 19) (lo' := [(1, .int c), (0, .ref a)]) (st' := [.int (Int32.ofInt (1)), .int (Int32.ofInt (1)), .ref a]) (h' := h3) rfl ?_
      refine zh_run (rest := []) (as := [.ref a, .int (Int32.ofInt (1)), .int (Int32.ofInt (1))]) zJ_232 (i := (54, 176, 2, 9)) rfl (by decide) (zcal54 (xs := [.int (Int32.ofInt (1)), .int (Int32.ofInt (1))]) (by omega) rfl rfl he3 rfl (Nat.le_of_ble_eq_true rfl) (M' := z_m176) rfl (Nat.le_of_ble_eq_true rfl)) (zS_176b _ T3 E3 ha) (fun o hh x y q => ?_)
      obtain ⟨v, rfl, rfl, rfl, rfl, T4, E4, F4⟩ := q
      refine ⟨_, rfl, rfl, rfl, ?_⟩
      show z_ok sx d 232 20 [(1, .int c), (0, .ref a)] [.int (Int32.ofInt (1))] hh _
      have N4 := N3.keep T4 ha F4 (zNin _ _ _ (by decide +kernel))
      refine zh_if zJ_232 (a := 23) (b := 0) (z := 0) rfl (fun hc7 => ?_) (fun hc7 => ?_)
      · exact absurd hc7 (by decide)
      · refine zh zJ_232 (i := (0, 0, 0, 0)) rfl rfl (k' := 22) (lo' := [(1, .int c), (0, .ref a)]) (st' := [.int (Int32.ofInt (0))]) (h' := hh) rfl ?_
        refine zh_iret zJ_232 (a := 0) (b := 0) (z := 0) rfl (Or.inl rfl) ?_
        exact ⟨_, rfl, rfl, rfl, ⟨_, rfl⟩, T4, E4, (F0.tr zExt.rf (F3.wide (by decide +kernel))).tr zExt.rf (F4.wide (by decide +kernel)), N4⟩
