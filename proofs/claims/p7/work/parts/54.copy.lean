/-! image, back, keepsAll, bringsBack by hand; printed with wip/gen/gen_copy.py -/
theorem zJ_180 : zJ3 180 z_m180 z_c180 z_h180 := ⟨rfl, rfl, rfl⟩
set_option maxRecDepth 100000 in
theorem zLp_180 {sx : zX} {d : Nat} {Ψ : zO → zH → Nat → Nat → Prop} {ty : List Nat} {h0 : zH} {a w1 w2 : Nat} {gs : List Value} {f1 : Nat → Int32} {ms : List zMod} (ha : ty[a]? = some 20) (ht1 : ty[w1]? = some 21) (ht2 : ty[w2]? = some 22) (hg1 : gs[1]? = some (.ref w1)) (hg2 : gs[2]? = some (.ref w2)) (hm : zcv ms 22 ((0 : Nat) : Int) (((0 + 1237 : Nat) : Int) - 1) = true) (kk : ∀ (x : Int32) (h : zH), zQc ty h0 a gs w1 2086 f1 w2 1237 ms 0 0 1237 h → z_ok sx d 180 18 [(1, .int x), (0, .ref a)] [] h Ψ) {h : zH} (q : zQc ty h0 a gs w1 2086 f1 w2 1237 ms 0 0 0 h) : z_ok sx d 180 5 [(1, .int (Int32.ofInt (0))), (0, .ref a)] [] h Ψ := by
  refine zloop (fun x => [(1, .int x), (0, .ref a)]) 1237 (zQc ty h0 a gs w1 2086 f1 w2 1237 ms 0 0) (fun i x h hx hi q kk => ?_) (fun x h hx q => ?_) 1237 0 _ h rfl rfl q
  · obtain ⟨T, F, he, h1, g, h2, hg⟩ := q
    refine zh zJ_180 (i := (1, 1, 0, 0)) rfl rfl (k' := 6) (lo' := [(1, .int x), (0, .ref a)]) (st' := [.int x]) (h' := h) rfl ?_
    refine zh zJ_180 (i := (0, 0, 0, 1237)) rfl rfl (k' := 7) (lo' := [(1, .int x), (0, .ref a)]) (st' := [.int (Int32.ofInt (1237)), .int x]) (h' := h) rfl ?_
    refine zh_icmp zJ_180 (a := 18) (b := 3) (z := 0) rfl (fun hc => ?_) (fun hc => ?_)
    · exact absurd (zcmp_ge.mp hc) (by rw [hx, z_of32 (by omega) (by omega)]; omega)
    refine zh zJ_180 (i := (2, 0, 0, 0)) rfl rfl (k' := 9) (lo' := [(1, .int x), (0, .ref a)]) (st' := [.ref a]) (h' := h) rfl ?_
    refine zh_get zJ_180 (a := a) (b := 2) (c := 9) (z := 0) rfl (k' := 10) rfl he hg2 ?_
    refine zh zJ_180 (i := (1, 1, 0, 0)) rfl rfl (k' := 11) (lo' := [(1, .int x), (0, .ref a)]) (st' := [.int x, .ref w2]) (h' := h) rfl ?_
    refine zh zJ_180 (i := (2, 0, 0, 0)) rfl rfl (k' := 12) (lo' := [(1, .int x), (0, .ref a)]) (st' := [.ref a, .int x, .ref w2]) (h' := h) rfl ?_
    refine zh_get zJ_180 (a := a) (b := 1) (c := 9) (z := 0) rfl (k' := 13) rfl he hg1 ?_
    refine zh zJ_180 (i := (1, 1, 0, 0)) rfl rfl (k' := 14) (lo' := [(1, .int x), (0, .ref a)]) (st' := [.int x, .ref w1, .int x, .ref w2]) (h' := h) rfl ?_
    refine zh_iald zJ_180 (z := 0) rfl (k' := 15) rfl h1 (by omega) (by omega) ?_
    refine zh_iast zJ_180 (z := 0) rfl (k' := 16) rfl h2 (by omega) (by omega) ?_
    refine zh zJ_180 (i := (7, 1, 0, 1)) rfl rfl (k' := 17) (lo' := [(1, .int (x + Int32.ofInt (1))), (0, .ref a)]) (st' := []) (h' := (h.set w2 (.inl (0, (1237, .inl (upd g x.toNatClampNeg (f1 x.toNatClampNeg))))))) rfl ?_
    refine zh zJ_180 (i := (30, 5, 0, 0)) rfl rfl (k' := 5) (lo' := [(1, .int (x + Int32.ofInt (1))), (0, .ref a)]) (st' := []) (h' := (h.set w2 (.inl (0, (1237, .inl (upd g x.toNatClampNeg (f1 x.toNatClampNeg))))))) rfl ?_
    refine kk _ _ (zinc hx (by omega)) ?_
    rw [znat hx]
    have := zQc_step (N := 1237) (t1 := 21) (t2 := 22) ⟨T, F, he, h1, h2, hg⟩ hi (by omega) (by omega) ha ht1 ht2 (by decide) (by decide) (zreg_same (N := 1237) (by decide +kernel) hi) hm
    rw [Nat.zero_add] at this
    exact this
  · refine zh zJ_180 (i := (1, 1, 0, 0)) rfl rfl (k' := 6) (lo' := [(1, .int x), (0, .ref a)]) (st' := [.int x]) (h' := h) rfl ?_
    refine zh zJ_180 (i := (0, 0, 0, 1237)) rfl rfl (k' := 7) (lo' := [(1, .int x), (0, .ref a)]) (st' := [.int (Int32.ofInt (1237)), .int x]) (h' := h) rfl ?_
    refine zh_icmp zJ_180 (a := 18) (b := 3) (z := 0) rfl (fun hc => ?_) (fun hc => ?_)
    · exact kk x h q
    · exact absurd (zcmp_ge.mpr (by rw [hx, z_of32 (by omega) (by omega)]; omega)) hc
theorem zJ_181 : zJ3 181 z_m181 z_c181 z_h181 := ⟨rfl, rfl, rfl⟩
set_option maxRecDepth 100000 in
theorem zLp_181 {sx : zX} {d : Nat} {Ψ : zO → zH → Nat → Nat → Prop} {ty : List Nat} {h0 : zH} {a w1 w2 : Nat} {gs : List Value} {f1 : Nat → Int32} {ms : List zMod} (ha : ty[a]? = some 20) (ht1 : ty[w1]? = some 22) (ht2 : ty[w2]? = some 21) (hg2 : gs[2]? = some (.ref w1)) (hg1 : gs[1]? = some (.ref w2)) (hm : zcv ms 21 ((0 : Nat) : Int) (((0 + 1237 : Nat) : Int) - 1) = true) (kk : ∀ (x : Int32) (h : zH), zQc ty h0 a gs w1 1237 f1 w2 2086 ms 0 0 1237 h → z_ok sx d 181 23 [(1, .int x), (0, .ref a)] [] h Ψ) {h : zH} (q : zQc ty h0 a gs w1 1237 f1 w2 2086 ms 0 0 0 h) : z_ok sx d 181 10 [(1, .int (Int32.ofInt (0))), (0, .ref a)] [] h Ψ := by
  refine zloop (fun x => [(1, .int x), (0, .ref a)]) 1237 (zQc ty h0 a gs w1 1237 f1 w2 2086 ms 0 0) (fun i x h hx hi q kk => ?_) (fun x h hx q => ?_) 1237 0 _ h rfl rfl q
  · obtain ⟨T, F, he, h1, g, h2, hg⟩ := q
    refine zh zJ_181 (i := (1, 1, 0, 0)) rfl rfl (k' := 11) (lo' := [(1, .int x), (0, .ref a)]) (st' := [.int x]) (h' := h) rfl ?_
    refine zh zJ_181 (i := (0, 0, 0, 1237)) rfl rfl (k' := 12) (lo' := [(1, .int x), (0, .ref a)]) (st' := [.int (Int32.ofInt (1237)), .int x]) (h' := h) rfl ?_
    refine zh_icmp zJ_181 (a := 23) (b := 3) (z := 0) rfl (fun hc => ?_) (fun hc => ?_)
    · exact absurd (zcmp_ge.mp hc) (by rw [hx, z_of32 (by omega) (by omega)]; omega)
    refine zh zJ_181 (i := (2, 0, 0, 0)) rfl rfl (k' := 14) (lo' := [(1, .int x), (0, .ref a)]) (st' := [.ref a]) (h' := h) rfl ?_
    refine zh_get zJ_181 (a := a) (b := 1) (c := 9) (z := 0) rfl (k' := 15) rfl he hg1 ?_
    refine zh zJ_181 (i := (1, 1, 0, 0)) rfl rfl (k' := 16) (lo' := [(1, .int x), (0, .ref a)]) (st' := [.int x, .ref w2]) (h' := h) rfl ?_
    refine zh zJ_181 (i := (2, 0, 0, 0)) rfl rfl (k' := 17) (lo' := [(1, .int x), (0, .ref a)]) (st' := [.ref a, .int x, .ref w2]) (h' := h) rfl ?_
    refine zh_get zJ_181 (a := a) (b := 2) (c := 9) (z := 0) rfl (k' := 18) rfl he hg2 ?_
    refine zh zJ_181 (i := (1, 1, 0, 0)) rfl rfl (k' := 19) (lo' := [(1, .int x), (0, .ref a)]) (st' := [.int x, .ref w1, .int x, .ref w2]) (h' := h) rfl ?_
    refine zh_iald zJ_181 (z := 0) rfl (k' := 20) rfl h1 (by omega) (by omega) ?_
    refine zh_iast zJ_181 (z := 0) rfl (k' := 21) rfl h2 (by omega) (by omega) ?_
    refine zh zJ_181 (i := (7, 1, 0, 1)) rfl rfl (k' := 22) (lo' := [(1, .int (x + Int32.ofInt (1))), (0, .ref a)]) (st' := []) (h' := (h.set w2 (.inl (0, (2086, .inl (upd g x.toNatClampNeg (f1 x.toNatClampNeg))))))) rfl ?_
    refine zh zJ_181 (i := (30, 10, 0, 0)) rfl rfl (k' := 10) (lo' := [(1, .int (x + Int32.ofInt (1))), (0, .ref a)]) (st' := []) (h' := (h.set w2 (.inl (0, (2086, .inl (upd g x.toNatClampNeg (f1 x.toNatClampNeg))))))) rfl ?_
    refine kk _ _ (zinc hx (by omega)) ?_
    rw [znat hx]
    have := zQc_step (N := 1237) (t1 := 22) (t2 := 21) ⟨T, F, he, h1, h2, hg⟩ hi (by omega) (by omega) ha ht1 ht2 (by decide) (by decide) (zreg_same (N := 1237) (by decide +kernel) hi) hm
    rw [Nat.zero_add] at this
    exact this
  · refine zh zJ_181 (i := (1, 1, 0, 0)) rfl rfl (k' := 11) (lo' := [(1, .int x), (0, .ref a)]) (st' := [.int x]) (h' := h) rfl ?_
    refine zh zJ_181 (i := (0, 0, 0, 1237)) rfl rfl (k' := 12) (lo' := [(1, .int x), (0, .ref a)]) (st' := [.int (Int32.ofInt (1237)), .int x]) (h' := h) rfl ?_
    refine zh_icmp zJ_181 (a := 23) (b := 3) (z := 0) rfl (fun hc => ?_) (fun hc => ?_)
    · exact kk x h q
    · exact absurd (zcmp_ge.mpr (by rw [hx, z_of32 (by omega) (by omega)]; omega)) hc
theorem zJ_266 : zJ3 266 z_m266 z_c266 z_h266 := ⟨rfl, rfl, rfl⟩
set_option maxRecDepth 100000 in
theorem zLp_266 {sx : zX} {d : Nat} {Ψ : zO → zH → Nat → Nat → Prop} {ty : List Nat} {h0 : zH} {a w1 w2 : Nat} {gs : List Value} {f1 : Nat → Int32} {ms : List zMod} (ha : ty[a]? = some 20) (ht1 : ty[w1]? = some 21) (ht2 : ty[w2]? = some 24) (hg1 : gs[1]? = some (.ref w1)) (hg4 : gs[4]? = some (.ref w2)) (hm : zcv ms 24 ((0 : Nat) : Int) (((0 + 388 : Nat) : Int) - 1) = true) (kk : ∀ (x : Int32) (h : zH), zQc ty h0 a gs w1 2086 f1 w2 388 ms 0 0 388 h → z_ok sx d 266 15 [(1, .int x), (0, .ref a)] [] h Ψ) {h : zH} (q : zQc ty h0 a gs w1 2086 f1 w2 388 ms 0 0 0 h) : z_ok sx d 266 2 [(1, .int (Int32.ofInt (0))), (0, .ref a)] [] h Ψ := by
  refine zloop (fun x => [(1, .int x), (0, .ref a)]) 388 (zQc ty h0 a gs w1 2086 f1 w2 388 ms 0 0) (fun i x h hx hi q kk => ?_) (fun x h hx q => ?_) 388 0 _ h rfl rfl q
  · obtain ⟨T, F, he, h1, g, h2, hg⟩ := q
    refine zh zJ_266 (i := (1, 1, 0, 0)) rfl rfl (k' := 3) (lo' := [(1, .int x), (0, .ref a)]) (st' := [.int x]) (h' := h) rfl ?_
    refine zh zJ_266 (i := (0, 0, 0, 388)) rfl rfl (k' := 4) (lo' := [(1, .int x), (0, .ref a)]) (st' := [.int (Int32.ofInt (388)), .int x]) (h' := h) rfl ?_
    refine zh_icmp zJ_266 (a := 15) (b := 3) (z := 0) rfl (fun hc => ?_) (fun hc => ?_)
    · exact absurd (zcmp_ge.mp hc) (by rw [hx, z_of32 (by omega) (by omega)]; omega)
    refine zh zJ_266 (i := (2, 0, 0, 0)) rfl rfl (k' := 6) (lo' := [(1, .int x), (0, .ref a)]) (st' := [.ref a]) (h' := h) rfl ?_
    refine zh_get zJ_266 (a := a) (b := 4) (c := 9) (z := 0) rfl (k' := 7) rfl he hg4 ?_
    refine zh zJ_266 (i := (1, 1, 0, 0)) rfl rfl (k' := 8) (lo' := [(1, .int x), (0, .ref a)]) (st' := [.int x, .ref w2]) (h' := h) rfl ?_
    refine zh zJ_266 (i := (2, 0, 0, 0)) rfl rfl (k' := 9) (lo' := [(1, .int x), (0, .ref a)]) (st' := [.ref a, .int x, .ref w2]) (h' := h) rfl ?_
    refine zh_get zJ_266 (a := a) (b := 1) (c := 9) (z := 0) rfl (k' := 10) rfl he hg1 ?_
    refine zh zJ_266 (i := (1, 1, 0, 0)) rfl rfl (k' := 11) (lo' := [(1, .int x), (0, .ref a)]) (st' := [.int x, .ref w1, .int x, .ref w2]) (h' := h) rfl ?_
    refine zh_iald zJ_266 (z := 0) rfl (k' := 12) rfl h1 (by omega) (by omega) ?_
    refine zh_iast zJ_266 (z := 0) rfl (k' := 13) rfl h2 (by omega) (by omega) ?_
    refine zh zJ_266 (i := (7, 1, 0, 1)) rfl rfl (k' := 14) (lo' := [(1, .int (x + Int32.ofInt (1))), (0, .ref a)]) (st' := []) (h' := (h.set w2 (.inl (0, (388, .inl (upd g x.toNatClampNeg (f1 x.toNatClampNeg))))))) rfl ?_
    refine zh zJ_266 (i := (30, 2, 0, 0)) rfl rfl (k' := 2) (lo' := [(1, .int (x + Int32.ofInt (1))), (0, .ref a)]) (st' := []) (h' := (h.set w2 (.inl (0, (388, .inl (upd g x.toNatClampNeg (f1 x.toNatClampNeg))))))) rfl ?_
    refine kk _ _ (zinc hx (by omega)) ?_
    rw [znat hx]
    have := zQc_step (N := 388) (t1 := 21) (t2 := 24) ⟨T, F, he, h1, h2, hg⟩ hi (by omega) (by omega) ha ht1 ht2 (by decide) (by decide) (zreg_same (N := 388) (by decide +kernel) hi) hm
    rw [Nat.zero_add] at this
    exact this
  · refine zh zJ_266 (i := (1, 1, 0, 0)) rfl rfl (k' := 3) (lo' := [(1, .int x), (0, .ref a)]) (st' := [.int x]) (h' := h) rfl ?_
    refine zh zJ_266 (i := (0, 0, 0, 388)) rfl rfl (k' := 4) (lo' := [(1, .int x), (0, .ref a)]) (st' := [.int (Int32.ofInt (388)), .int x]) (h' := h) rfl ?_
    refine zh_icmp zJ_266 (a := 15) (b := 3) (z := 0) rfl (fun hc => ?_) (fun hc => ?_)
    · exact kk x h q
    · exact absurd (zcmp_ge.mpr (by rw [hx, z_of32 (by omega) (by omega)]; omega)) hc
theorem zJ_267 : zJ3 267 z_m267 z_c267 z_h267 := ⟨rfl, rfl, rfl⟩
set_option maxRecDepth 100000 in
theorem zLp_267 {sx : zX} {d : Nat} {Ψ : zO → zH → Nat → Nat → Prop} {ty : List Nat} {h0 : zH} {a w1 w2 : Nat} {gs : List Value} {f1 : Nat → Int32} {ms : List zMod} (ha : ty[a]? = some 20) (ht1 : ty[w1]? = some 24) (ht2 : ty[w2]? = some 21) (hg4 : gs[4]? = some (.ref w1)) (hg1 : gs[1]? = some (.ref w2)) (hm : zcv ms 21 ((0 : Nat) : Int) (((0 + 388 : Nat) : Int) - 1) = true) (kk : ∀ (x : Int32) (h : zH), zQc ty h0 a gs w1 388 f1 w2 2086 ms 0 0 388 h → z_ok sx d 267 15 [(1, .int x), (0, .ref a)] [] h Ψ) {h : zH} (q : zQc ty h0 a gs w1 388 f1 w2 2086 ms 0 0 0 h) : z_ok sx d 267 2 [(1, .int (Int32.ofInt (0))), (0, .ref a)] [] h Ψ := by
  refine zloop (fun x => [(1, .int x), (0, .ref a)]) 388 (zQc ty h0 a gs w1 388 f1 w2 2086 ms 0 0) (fun i x h hx hi q kk => ?_) (fun x h hx q => ?_) 388 0 _ h rfl rfl q
  · obtain ⟨T, F, he, h1, g, h2, hg⟩ := q
    refine zh zJ_267 (i := (1, 1, 0, 0)) rfl rfl (k' := 3) (lo' := [(1, .int x), (0, .ref a)]) (st' := [.int x]) (h' := h) rfl ?_
    refine zh zJ_267 (i := (0, 0, 0, 388)) rfl rfl (k' := 4) (lo' := [(1, .int x), (0, .ref a)]) (st' := [.int (Int32.ofInt (388)), .int x]) (h' := h) rfl ?_
    refine zh_icmp zJ_267 (a := 15) (b := 3) (z := 0) rfl (fun hc => ?_) (fun hc => ?_)
    · exact absurd (zcmp_ge.mp hc) (by rw [hx, z_of32 (by omega) (by omega)]; omega)
    refine zh zJ_267 (i := (2, 0, 0, 0)) rfl rfl (k' := 6) (lo' := [(1, .int x), (0, .ref a)]) (st' := [.ref a]) (h' := h) rfl ?_
    refine zh_get zJ_267 (a := a) (b := 1) (c := 9) (z := 0) rfl (k' := 7) rfl he hg1 ?_
    refine zh zJ_267 (i := (1, 1, 0, 0)) rfl rfl (k' := 8) (lo' := [(1, .int x), (0, .ref a)]) (st' := [.int x, .ref w2]) (h' := h) rfl ?_
    refine zh zJ_267 (i := (2, 0, 0, 0)) rfl rfl (k' := 9) (lo' := [(1, .int x), (0, .ref a)]) (st' := [.ref a, .int x, .ref w2]) (h' := h) rfl ?_
    refine zh_get zJ_267 (a := a) (b := 4) (c := 9) (z := 0) rfl (k' := 10) rfl he hg4 ?_
    refine zh zJ_267 (i := (1, 1, 0, 0)) rfl rfl (k' := 11) (lo' := [(1, .int x), (0, .ref a)]) (st' := [.int x, .ref w1, .int x, .ref w2]) (h' := h) rfl ?_
    refine zh_iald zJ_267 (z := 0) rfl (k' := 12) rfl h1 (by omega) (by omega) ?_
    refine zh_iast zJ_267 (z := 0) rfl (k' := 13) rfl h2 (by omega) (by omega) ?_
    refine zh zJ_267 (i := (7, 1, 0, 1)) rfl rfl (k' := 14) (lo' := [(1, .int (x + Int32.ofInt (1))), (0, .ref a)]) (st' := []) (h' := (h.set w2 (.inl (0, (2086, .inl (upd g x.toNatClampNeg (f1 x.toNatClampNeg))))))) rfl ?_
    refine zh zJ_267 (i := (30, 2, 0, 0)) rfl rfl (k' := 2) (lo' := [(1, .int (x + Int32.ofInt (1))), (0, .ref a)]) (st' := []) (h' := (h.set w2 (.inl (0, (2086, .inl (upd g x.toNatClampNeg (f1 x.toNatClampNeg))))))) rfl ?_
    refine kk _ _ (zinc hx (by omega)) ?_
    rw [znat hx]
    have := zQc_step (N := 388) (t1 := 24) (t2 := 21) ⟨T, F, he, h1, h2, hg⟩ hi (by omega) (by omega) ha ht1 ht2 (by decide) (by decide) (zreg_same (N := 388) (by decide +kernel) hi) hm
    rw [Nat.zero_add] at this
    exact this
  · refine zh zJ_267 (i := (1, 1, 0, 0)) rfl rfl (k' := 3) (lo' := [(1, .int x), (0, .ref a)]) (st' := [.int x]) (h' := h) rfl ?_
    refine zh zJ_267 (i := (0, 0, 0, 388)) rfl rfl (k' := 4) (lo' := [(1, .int x), (0, .ref a)]) (st' := [.int (Int32.ofInt (388)), .int x]) (h' := h) rfl ?_
    refine zh_icmp zJ_267 (a := 15) (b := 3) (z := 0) rfl (fun hc => ?_) (fun hc => ?_)
    · exact kk x h q
    · exact absurd (zcmp_ge.mpr (by rw [hx, z_of32 (by omega) (by omega)]; omega)) hc
