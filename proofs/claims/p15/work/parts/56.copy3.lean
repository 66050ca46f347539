section
/-! undo, remembers by hand; printed with wip/gen/gen_copy3.py -/
noncomputable def zshc (r1 r2 : List (Int × Int × zA)) (N p q : Nat) : Bool := r2.all (fun r => decide ((q : Int) + (N : Int) ≤ r.1) || (decide (r.2.1 < (q : Int)) || r1.any (fun r' => decide (r' = (r.1 + ((p : Int) - (q : Int)), r.2.1 + ((p : Int) - (q : Int)), r.2.2)))))
theorem zreg_sh {r1 r2 : List (Int × Int × zA)} {N p q : Nat} (hc : zshc r1 r2 N p q = true) {i : Nat} (hi : i < N) : ∀ r ∈ r2, r.1 ≤ ((q + i : Nat) : Int) → ((q + i : Nat) : Int) ≤ r.2.1 → ∃ r' ∈ r1, r'.1 ≤ ((p + i : Nat) : Int) ∧ ((p + i : Nat) : Int) ≤ r'.2.1 ∧ r'.2.2 = r.2.2 := by
  intro r hr h1 h2
  have := List.all_eq_true.mp hc r hr
  rw [Bool.or_eq_true, Bool.or_eq_true, decide_eq_true_eq, decide_eq_true_eq] at this
  rcases this with h | h | h
  · omega
  · omega
  · obtain ⟨r', m, e⟩ := List.any_eq_true.mp h
    have e := of_decide_eq_true e
    subst e
    exact ⟨_, m, by dsimp only; omega, by dsimp only; omega, rfl⟩
theorem zmad {m x : Int32} {mn i : Nat} (hm : m.toInt = (mn : Int)) (hx : x.toInt = (i : Int)) (h1 : mn ≤ 12) (h2 : i ≤ 400) : (Int32.ofInt (388) * m + x).toInt = ((388 * mn + i : Nat) : Int) := by
  have e1 : (Int32.ofInt (388) * m).toInt = 388 * (mn : Int) := by
    rw [Int32.toInt_mul, hm, show (Int32.ofInt (388)).toInt = 388 from rfl]
    exact z_bm (by omega) (by omega)
  rw [Int32.toInt_add, e1, hx, z_bm (by omega) (by omega)]
  omega
theorem zsub1 {m : Int32} (h1 : -1000 ≤ m.toInt) (h2 : m.toInt ≤ 1000) : (m - Int32.ofInt (1)).toInt = m.toInt - 1 := by
  rw [Int32.toInt_sub, show (Int32.ofInt (1)).toInt = 1 from rfl]
  exact z_bm (by omega) (by omega)
theorem zadd1 {m : Int32} (h1 : -1000 ≤ m.toInt) (h2 : m.toInt ≤ 1000) : (m + Int32.ofInt (1)).toInt = m.toInt + 1 := by
  rw [Int32.toInt_add, show (Int32.ofInt (1)).toInt = 1 from rfl]
  exact z_bm (by omega) (by omega)
theorem zsh_u : (List.range 12).all (fun m => zshc (z_tt 25).2.2.2 (z_tt 21).2.2.2 388 (388 * m) 0) = true := by decide +kernel
theorem zsh_r : (List.range 12).all (fun m => zshc (z_tt 21).2.2.2 (z_tt 25).2.2.2 388 0 (388 * m)) = true := by decide +kernel
theorem zsh_s : zshc (z_tt 25).2.2.2 (z_tt 25).2.2.2 4268 388 0 = true := by decide +kernel
theorem zJ_183 : zJ3 183 z_m183 z_c183 z_h183 := ⟨rfl, rfl, rfl⟩
theorem zJ_182 : zJ3 182 z_m182 z_c182 z_h182 := ⟨rfl, rfl, rfl⟩
set_option maxRecDepth 100000 in
theorem zLp_183 {sx : zX} {d : Nat} {Ψ : zO → zH → Nat → Nat → Prop} {ty : List Nat} {h0 : zH} {a w1 w2 : Nat} {gs : List Value} {f1 : Nat → Int32} {ms : List zMod} {m : Int32} {mn : Nat} (hmn : m.toInt = (mn : Int)) (hmb : mn ≤ 11) (hg7 : gs[7]? = some (.int m)) (ha : ty[a]? = some 20) (ht1 : ty[w1]? = some 25) (ht2 : ty[w2]? = some 21) (hg5 : gs[5]? = some (.ref w1)) (hg1 : gs[1]? = some (.ref w2)) (hm : zcv ms 21 ((0 : Nat) : Int) (((0 + 388 : Nat) : Int) - 1) = true) (kk : ∀ (x : Int32) (h : zH), zQc ty h0 a gs w1 4656 f1 w2 2086 ms (388 * mn) (0) 388 h → z_ok sx d 183 34 [(1, .int x), (0, .ref a)] [] h Ψ) {h : zH} (q : zQc ty h0 a gs w1 4656 f1 w2 2086 ms (388 * mn) (0) 0 h) : z_ok sx d 183 16 [(1, .int (Int32.ofInt (0))), (0, .ref a)] [] h Ψ := by
  refine zloop (fun x => [(1, .int x), (0, .ref a)]) 388 (zQc ty h0 a gs w1 4656 f1 w2 2086 ms (388 * mn) (0)) (fun i x h hx hi q kk => ?_) (fun x h hx q => ?_) 388 0 _ h rfl rfl q
  · obtain ⟨T, F, he, h1, g, h2, hg⟩ := q
    refine zh zJ_183 (i := (1, 1, 0, 0)) rfl rfl (k' := 17) (lo' := [(1, .int x), (0, .ref a)]) (st' := [.int x]) (h' := h) rfl ?_
    refine zh zJ_183 (i := (0, 0, 0, 388)) rfl rfl (k' := 18) (lo' := [(1, .int x), (0, .ref a)]) (st' := [.int (Int32.ofInt (388)), .int x]) (h' := h) rfl ?_
    refine zh_icmp zJ_183 (a := 34) (b := 3) (z := 0) rfl (fun hc => ?_) (fun hc => ?_)
    · exact absurd (zcmp_ge.mp hc) (by rw [hx, z_of32 (by omega) (by omega)]; omega)
    refine zh zJ_183 (i := (2, 0, 0, 0)) rfl rfl (k' := 20) (lo' := [(1, .int x), (0, .ref a)]) (st' := [.ref a]) (h' := h) rfl ?_
    refine zh_get zJ_183 (a := a) (b := 1) (c := 9) (z := 0) rfl (k' := 21) rfl he hg1 ?_
    refine zh zJ_183 (i := (1, 1, 0, 0)) rfl rfl (k' := 22) (lo' := [(1, .int x), (0, .ref a)]) (st' := [.int x, .ref w2]) (h' := h) rfl ?_
    refine zh zJ_183 (i := (2, 0, 0, 0)) rfl rfl (k' := 23) (lo' := [(1, .int x), (0, .ref a)]) (st' := [.ref a, .int x, .ref w2]) (h' := h) rfl ?_
    refine zh_get zJ_183 (a := a) (b := 5) (c := 9) (z := 0) rfl (k' := 24) rfl he hg5 ?_
    refine zh zJ_183 (i := (0, 0, 0, 388)) rfl rfl (k' := 25) (lo' := [(1, .int x), (0, .ref a)]) (st' := [.int (Int32.ofInt (388)), .ref w1, .int x, .ref w2]) (h' := h) rfl ?_
    refine zh zJ_183 (i := (2, 0, 0, 0)) rfl rfl (k' := 26) (lo' := [(1, .int x), (0, .ref a)]) (st' := [.ref a, .int (Int32.ofInt (388)), .ref w1, .int x, .ref w2]) (h' := h) rfl ?_
    refine zh_get zJ_183 (a := a) (b := 7) (c := 9) (z := 0) rfl (k' := 27) rfl he hg7 ?_
    refine zh zJ_183 (i := (10, 0, 0, 0)) rfl rfl (k' := 28) (lo' := [(1, .int x), (0, .ref a)]) (st' := [.int ((Int32.ofInt (388)) * m), .ref w1, .int x, .ref w2]) (h' := h) rfl ?_
    refine zh zJ_183 (i := (1, 1, 0, 0)) rfl rfl (k' := 29) (lo' := [(1, .int x), (0, .ref a)]) (st' := [.int x, .int ((Int32.ofInt (388)) * m), .ref w1, .int x, .ref w2]) (h' := h) rfl ?_
    refine zh zJ_183 (i := (8, 0, 0, 0)) rfl rfl (k' := 30) (lo' := [(1, .int x), (0, .ref a)]) (st' := [.int (((Int32.ofInt (388)) * m) + x), .ref w1, .int x, .ref w2]) (h' := h) rfl ?_
    have hix := zmad hmn hx (by omega) (by omega)
    refine zh_iald zJ_183 (z := 0) rfl (k' := 31) rfl h1 (by omega) (by omega) ?_
    refine zh_iast zJ_183 (z := 0) rfl (k' := 32) rfl h2 (by omega) (by omega) ?_
    refine zh zJ_183 (i := (7, 1, 0, 1)) rfl rfl (k' := 33) (lo' := [(1, .int (x + Int32.ofInt (1))), (0, .ref a)]) (st' := []) (h' := (h.set w2 (.inl (0, (2086, .inl (upd g x.toNatClampNeg (f1 (Int32.ofInt (388) * m + x).toNatClampNeg))))))) rfl ?_
    refine zh zJ_183 (i := (30, 16, 0, 0)) rfl rfl (k' := 16) (lo' := [(1, .int (x + Int32.ofInt (1))), (0, .ref a)]) (st' := []) (h' := (h.set w2 (.inl (0, (2086, .inl (upd g x.toNatClampNeg (f1 (Int32.ofInt (388) * m + x).toNatClampNeg))))))) rfl ?_
    refine kk _ _ (zinc hx (by omega)) ?_
    rw [znat hx, znat hix]
    have := zQc_step (N := 388) (t1 := 25) (t2 := 21) ⟨T, F, he, h1, h2, hg⟩ hi (by omega) (by omega) ha ht1 ht2 (by decide) (by decide) (zreg_sh (N := 388) (List.all_eq_true.mp zsh_u mn (List.mem_range.mpr (by omega))) hi) hm
    rw [Nat.zero_add] at this
    exact this
  · refine zh zJ_183 (i := (1, 1, 0, 0)) rfl rfl (k' := 17) (lo' := [(1, .int x), (0, .ref a)]) (st' := [.int x]) (h' := h) rfl ?_
    refine zh zJ_183 (i := (0, 0, 0, 388)) rfl rfl (k' := 18) (lo' := [(1, .int x), (0, .ref a)]) (st' := [.int (Int32.ofInt (388)), .int x]) (h' := h) rfl ?_
    refine zh_icmp zJ_183 (a := 34) (b := 3) (z := 0) rfl (fun hc => ?_) (fun hc => ?_)
    · exact kk x h q
    · exact absurd (zcmp_ge.mpr (by rw [hx, z_of32 (by omega) (by omega)]; omega)) hc
set_option maxRecDepth 100000 in
theorem zLp_182 {sx : zX} {d : Nat} {Ψ : zO → zH → Nat → Nat → Prop} {ty : List Nat} {h0 : zH} {a w1 w2 : Nat} {gs : List Value} {f1 : Nat → Int32} {ms : List zMod} {m : Int32} {mn : Nat} (hmn : (m - Int32.ofInt (1)).toInt = (mn : Int)) (hmb : mn ≤ 11) (hg7 : gs[7]? = some (.int m)) (ha : ty[a]? = some 20) (ht1 : ty[w1]? = some 21) (ht2 : ty[w2]? = some 25) (hg1 : gs[1]? = some (.ref w1)) (hg5 : gs[5]? = some (.ref w2)) (hm : zcv ms 25 ((388 * mn : Nat) : Int) (((388 * mn + 388 : Nat) : Int) - 1) = true) (kk : ∀ (x : Int32) (h : zH), zQc ty h0 a gs w1 2086 f1 w2 4656 ms (0) (388 * mn) 388 h → z_ok sx d 182 50 [(1, .int x), (0, .ref a)] [] h Ψ) {h : zH} (q : zQc ty h0 a gs w1 2086 f1 w2 4656 ms (0) (388 * mn) 0 h) : z_ok sx d 182 30 [(1, .int (Int32.ofInt (0))), (0, .ref a)] [] h Ψ := by
  refine zloop (fun x => [(1, .int x), (0, .ref a)]) 388 (zQc ty h0 a gs w1 2086 f1 w2 4656 ms (0) (388 * mn)) (fun i x h hx hi q kk => ?_) (fun x h hx q => ?_) 388 0 _ h rfl rfl q
  · obtain ⟨T, F, he, h1, g, h2, hg⟩ := q
    refine zh zJ_182 (i := (1, 1, 0, 0)) rfl rfl (k' := 31) (lo' := [(1, .int x), (0, .ref a)]) (st' := [.int x]) (h' := h) rfl ?_
    refine zh zJ_182 (i := (0, 0, 0, 388)) rfl rfl (k' := 32) (lo' := [(1, .int x), (0, .ref a)]) (st' := [.int (Int32.ofInt (388)), .int x]) (h' := h) rfl ?_
    refine zh_icmp zJ_182 (a := 50) (b := 3) (z := 0) rfl (fun hc => ?_) (fun hc => ?_)
    · exact absurd (zcmp_ge.mp hc) (by rw [hx, z_of32 (by omega) (by omega)]; omega)
    refine zh zJ_182 (i := (2, 0, 0, 0)) rfl rfl (k' := 34) (lo' := [(1, .int x), (0, .ref a)]) (st' := [.ref a]) (h' := h) rfl ?_
    refine zh_get zJ_182 (a := a) (b := 5) (c := 9) (z := 0) rfl (k' := 35) rfl he hg5 ?_
    refine zh zJ_182 (i := (0, 0, 0, 388)) rfl rfl (k' := 36) (lo' := [(1, .int x), (0, .ref a)]) (st' := [.int (Int32.ofInt (388)), .ref w2]) (h' := h) rfl ?_
    refine zh zJ_182 (i := (2, 0, 0, 0)) rfl rfl (k' := 37) (lo' := [(1, .int x), (0, .ref a)]) (st' := [.ref a, .int (Int32.ofInt (388)), .ref w2]) (h' := h) rfl ?_
    refine zh_get zJ_182 (a := a) (b := 7) (c := 9) (z := 0) rfl (k' := 38) rfl he hg7 ?_
    refine zh zJ_182 (i := (0, 0, 0, 1)) rfl rfl (k' := 39) (lo' := [(1, .int x), (0, .ref a)]) (st' := [.int (Int32.ofInt (1)), .int m, .int (Int32.ofInt (388)), .ref w2]) (h' := h) rfl ?_
    refine zh zJ_182 (i := (9, 0, 0, 0)) rfl rfl (k' := 40) (lo' := [(1, .int x), (0, .ref a)]) (st' := [.int (m - (Int32.ofInt (1))), .int (Int32.ofInt (388)), .ref w2]) (h' := h) rfl ?_
    refine zh zJ_182 (i := (10, 0, 0, 0)) rfl rfl (k' := 41) (lo' := [(1, .int x), (0, .ref a)]) (st' := [.int ((Int32.ofInt (388)) * (m - (Int32.ofInt (1)))), .ref w2]) (h' := h) rfl ?_
    refine zh zJ_182 (i := (1, 1, 0, 0)) rfl rfl (k' := 42) (lo' := [(1, .int x), (0, .ref a)]) (st' := [.int x, .int ((Int32.ofInt (388)) * (m - (Int32.ofInt (1)))), .ref w2]) (h' := h) rfl ?_
    refine zh zJ_182 (i := (8, 0, 0, 0)) rfl rfl (k' := 43) (lo' := [(1, .int x), (0, .ref a)]) (st' := [.int (((Int32.ofInt (388)) * (m - (Int32.ofInt (1)))) + x), .ref w2]) (h' := h) rfl ?_
    refine zh zJ_182 (i := (2, 0, 0, 0)) rfl rfl (k' := 44) (lo' := [(1, .int x), (0, .ref a)]) (st' := [.ref a, .int (((Int32.ofInt (388)) * (m - (Int32.ofInt (1)))) + x), .ref w2]) (h' := h) rfl ?_
    refine zh_get zJ_182 (a := a) (b := 1) (c := 9) (z := 0) rfl (k' := 45) rfl he hg1 ?_
    refine zh zJ_182 (i := (1, 1, 0, 0)) rfl rfl (k' := 46) (lo' := [(1, .int x), (0, .ref a)]) (st' := [.int x, .ref w1, .int (((Int32.ofInt (388)) * (m - (Int32.ofInt (1)))) + x), .ref w2]) (h' := h) rfl ?_
    refine zh_iald zJ_182 (z := 0) rfl (k' := 47) rfl h1 (by omega) (by omega) ?_
    have hix := zmad hmn hx (by omega) (by omega)
    refine zh_iast zJ_182 (z := 0) rfl (k' := 48) rfl h2 (by omega) (by omega) ?_
    refine zh zJ_182 (i := (7, 1, 0, 1)) rfl rfl (k' := 49) (lo' := [(1, .int (x + Int32.ofInt (1))), (0, .ref a)]) (st' := []) (h' := (h.set w2 (.inl (0, (4656, .inl (upd g (Int32.ofInt (388) * (m - Int32.ofInt (1)) + x).toNatClampNeg (f1 x.toNatClampNeg))))))) rfl ?_
    refine zh zJ_182 (i := (30, 30, 0, 0)) rfl rfl (k' := 30) (lo' := [(1, .int (x + Int32.ofInt (1))), (0, .ref a)]) (st' := []) (h' := (h.set w2 (.inl (0, (4656, .inl (upd g (Int32.ofInt (388) * (m - Int32.ofInt (1)) + x).toNatClampNeg (f1 x.toNatClampNeg))))))) rfl ?_
    refine kk _ _ (zinc hx (by omega)) ?_
    rw [znat hx, znat hix]
    have := zQc_step (N := 388) (t1 := 21) (t2 := 25) ⟨T, F, he, h1, h2, hg⟩ hi (by omega) (by omega) ha ht1 ht2 (by decide) (by decide) (zreg_sh (N := 388) (List.all_eq_true.mp zsh_r mn (List.mem_range.mpr (by omega))) hi) hm
    rw [Nat.zero_add] at this
    exact this
  · refine zh zJ_182 (i := (1, 1, 0, 0)) rfl rfl (k' := 31) (lo' := [(1, .int x), (0, .ref a)]) (st' := [.int x]) (h' := h) rfl ?_
    refine zh zJ_182 (i := (0, 0, 0, 388)) rfl rfl (k' := 32) (lo' := [(1, .int x), (0, .ref a)]) (st' := [.int (Int32.ofInt (388)), .int x]) (h' := h) rfl ?_
    refine zh_icmp zJ_182 (a := 50) (b := 3) (z := 0) rfl (fun hc => ?_) (fun hc => ?_)
    · exact kk x h q
    · exact absurd (zcmp_ge.mpr (by rw [hx, z_of32 (by omega) (by omega)]; omega)) hc
set_option maxRecDepth 100000 in
theorem zLs_182 {sx : zX} {d : Nat} {Ψ : zO → zH → Nat → Nat → Prop} {ty : List Nat} {h0 : zH} {a w : Nat} {gs : List Value} {ms : List zMod} (ha : ty[a]? = some 20) (ht : ty[w]? = some 25) (hg5 : gs[5]? = some (.ref w)) (hm : zcv ms 25 0 4267 = true) (kk : ∀ (x : Int32) (h : zH), zTY z_tt ty h ∧ zFm ms ty h0 h ∧ h[a]? = some (.inr (9, gs)) → z_ok sx d 182 21 [(1, .int x), (0, .ref a)] [] h Ψ) {h : zH} (q : zTY z_tt ty h ∧ zFm ms ty h0 h ∧ h[a]? = some (.inr (9, gs))) : z_ok sx d 182 6 [(1, .int (Int32.ofInt (0))), (0, .ref a)] [] h Ψ := by
  refine zloop (fun x => [(1, .int x), (0, .ref a)]) 4268 (fun _ h => zTY z_tt ty h ∧ zFm ms ty h0 h ∧ h[a]? = some (.inr (9, gs))) (fun i x h hx hi q kk => ?_) (fun x h hx q => ?_) 4268 0 _ h rfl rfl q
  · obtain ⟨T, F, he⟩ := q
    obtain ⟨f, hf⟩ := zcell1 (n := 4656) T ht rfl rfl
    refine zh zJ_182 (i := (1, 1, 0, 0)) rfl rfl (k' := 7) (lo' := [(1, .int x), (0, .ref a)]) (st' := [.int x]) (h' := h) rfl ?_
    refine zh zJ_182 (i := (0, 0, 0, 4268)) rfl rfl (k' := 8) (lo' := [(1, .int x), (0, .ref a)]) (st' := [.int (Int32.ofInt (4268)), .int x]) (h' := h) rfl ?_
    refine zh_icmp zJ_182 (a := 21) (b := 3) (z := 0) rfl (fun hc => ?_) (fun hc => ?_)
    · exact absurd (zcmp_ge.mp hc) (by rw [hx, z_of32 (by omega) (by omega)]; omega)
    refine zh zJ_182 (i := (2, 0, 0, 0)) rfl rfl (k' := 10) (lo' := [(1, .int x), (0, .ref a)]) (st' := [.ref a]) (h' := h) rfl ?_
    refine zh_get zJ_182 (a := a) (b := 5) (c := 9) (z := 0) rfl (k' := 11) rfl he hg5 ?_
    refine zh zJ_182 (i := (1, 1, 0, 0)) rfl rfl (k' := 12) (lo' := [(1, .int x), (0, .ref a)]) (st' := [.int x, .ref w]) (h' := h) rfl ?_
    refine zh zJ_182 (i := (2, 0, 0, 0)) rfl rfl (k' := 13) (lo' := [(1, .int x), (0, .ref a)]) (st' := [.ref a, .int x, .ref w]) (h' := h) rfl ?_
    refine zh_get zJ_182 (a := a) (b := 5) (c := 9) (z := 0) rfl (k' := 14) rfl he hg5 ?_
    refine zh zJ_182 (i := (1, 1, 0, 0)) rfl rfl (k' := 15) (lo' := [(1, .int x), (0, .ref a)]) (st' := [.int x, .ref w, .int x, .ref w]) (h' := h) rfl ?_
    refine zh zJ_182 (i := (0, 0, 0, 388)) rfl rfl (k' := 16) (lo' := [(1, .int x), (0, .ref a)]) (st' := [.int (Int32.ofInt (388)), .int x, .ref w, .int x, .ref w]) (h' := h) rfl ?_
    refine zh zJ_182 (i := (8, 0, 0, 0)) rfl rfl (k' := 17) (lo' := [(1, .int x), (0, .ref a)]) (st' := [.int (x + (Int32.ofInt (388))), .ref w, .int x, .ref w]) (h' := h) rfl ?_
    have hix : (x + Int32.ofInt (388)).toInt = ((388 + i : Nat) : Int) := by
      rw [Int32.toInt_add, hx, show (Int32.ofInt (388)).toInt = 388 from rfl, z_bm (by omega) (by omega)]
      omega
    refine zh_iald zJ_182 (z := 0) rfl (k' := 18) rfl hf (by omega) (by omega) ?_
    refine zh_iast zJ_182 (z := 0) rfl (k' := 19) rfl hf (by omega) (by omega) ?_
    refine zh zJ_182 (i := (7, 1, 0, 1)) rfl rfl (k' := 20) (lo' := [(1, .int (x + Int32.ofInt (1))), (0, .ref a)]) (st' := []) (h' := (h.set w (.inl (0, (4656, .inl (upd f x.toNatClampNeg (f (x + Int32.ofInt (388)).toNatClampNeg))))))) rfl ?_
    refine zh zJ_182 (i := (30, 6, 0, 0)) rfl rfl (k' := 6) (lo' := [(1, .int (x + Int32.ofInt (1))), (0, .ref a)]) (st' := []) (h' := (h.set w (.inl (0, (4656, .inl (upd f x.toNatClampNeg (f (x + Int32.ofInt (388)).toNatClampNeg))))))) rfl ?_
    refine kk _ _ (zinc hx (by omega)) ?_
    rw [znat hx, znat hix]
    have hreg := zreg_sh (N := 4268) zsh_s hi
    obtain ⟨T', F'⟩ := zwr (ms := ms) T ht hf (i := i) (x := f (388 + i)) (by omega) (fun r hr r1 r2 => by
      obtain ⟨r', m', a1, a2, a3⟩ := hreg r hr (by rw [Nat.zero_add]; exact r1) (by rw [Nat.zero_add]; exact r2)
      rw [← a3]
      exact (T.2.2 w 25 _ ht hf).2 (388 + i) _ (by rw [z_rd0, if_pos (by omega)]) r' m' a1 a2) (zcv_ok hm (by omega) (by omega))
    exact ⟨T', F.tr zExt.rf F', by rw [zset_ne (fun e => by rw [e, ha] at ht; cases ht)]; exact he⟩
  · refine zh zJ_182 (i := (1, 1, 0, 0)) rfl rfl (k' := 7) (lo' := [(1, .int x), (0, .ref a)]) (st' := [.int x]) (h' := h) rfl ?_
    refine zh zJ_182 (i := (0, 0, 0, 4268)) rfl rfl (k' := 8) (lo' := [(1, .int x), (0, .ref a)]) (st' := [.int (Int32.ofInt (4268)), .int x]) (h' := h) rfl ?_
    refine zh_icmp zJ_182 (a := 21) (b := 3) (z := 0) rfl (fun hc => ?_) (fun hc => ?_)
    · exact kk x h q
    · exact absurd (zcmp_ge.mpr (by rw [hx, z_of32 (by omega) (by omega)]; omega)) hc
end
section
/-! the contracts of undo, remembers; printed with wip/gen/gen_copy4.py -/
set_option maxRecDepth 100000 in
theorem zV_31 : zVd z_tt zE1 zC31 := by
  intro sx d ty h as hd T E hA
  match as, hA with
  | [va], hA =>
  obtain ⟨a, t, rfl, ha, t1, t2⟩ := hA.1
  have et : t = 20 := by omega
  subst et
  show z_ok sx d 183 0 [(0, .ref a)] [] h _
  obtain ⟨fs, he, hl⟩ := zcell0 (c := 9) (n := 23) T ha rfl rfl rfl
  refine zh zJ_183 (i := (2, 0, 0, 0)) rfl rfl (k' := 1) (lo' := [(0, .ref a)]) (st' := [.ref a]) (h' := h) rfl ?_
  refine zh zJ_183 (i := (0, 0, 0, 0)) rfl rfl (k' := 2) (lo' := [(0, .ref a)]) (st' := [.int (Int32.ofInt (0)), .ref a]) (h' := h) rfl ?_
  obtain ⟨T1, F1⟩ := zwf' (ms := zcM zC31) (b := 0) T ha he (by omega) (zK0 (n := 0) (by decide) (by decide)) (by decide +kernel) (by decide +kernel)
  have he1 := zset_eq (e := .inr (9, fs.set 0 (.int (Int32.ofInt (0))))) he
  have hl1 : (fs.set 0 (.int (Int32.ofInt (0)))).length = 23 := by rw [List.length_set]; exact hl
  refine zh_put zJ_183 (b := 0) (c := 9) (z := 0) rfl (k' := 3) rfl he (by omega) rfl ?_
  generalize fs.set 0 (.int (Int32.ofInt (0))) = gs at T1 F1 he1 hl1 ⊢
  generalize h.set a (.inr (9, gs)) = h1 at T1 F1 he1 ⊢
  obtain ⟨m, g7, m1, m2⟩ := zfd0 (b := 7) (lo := 0) (hi := 12) T1 ha he1 (by omega) (by decide +kernel)
  have hret : ∀ (v : Int32) (h' : zH), zTY z_tt ty h' → zFm (zcM zC31) ty h h' → 0 ≤ v.toInt → v.toInt ≤ 1 → zPo z_tt zE1 zC31 ty h (.inl (some (.int v))) h' 0 0 := fun v h' T' F' v1 v2 => ⟨ty, zExt.rf, T', zE1_stable (by decide +kernel) ty h h' T T' (T.len T') F' E, F', ⟨v, rfl, v1, v2⟩, Nat.le_refl _, Nat.le_refl _⟩
  refine zh zJ_183 (i := (2, 0, 0, 0)) rfl rfl (k' := 4) (lo' := [(0, .ref a)]) (st' := [.ref a]) (h' := h1) rfl ?_
  refine zh_get zJ_183 (a := a) (b := 7) (c := 9) (z := 0) rfl (k' := 5) rfl he1 g7 ?_
  refine zh_if zJ_183 (a := 8) (b := 1) (z := 0) rfl (fun hc => ?_) (fun hc => ?_)
  · refine zh zJ_183 (i := (2, 0, 0, 0)) rfl rfl (k' := 9) (lo' := [(0, .ref a)]) (st' := [.ref a]) (h' := h1) rfl ?_
    refine zh zJ_183 (i := (27, 0, 0, 0)) rfl rfl (k' := 10) (lo' := [(0, .ref a)]) (st' := [.ref a, .ref a]) (h' := h1) rfl ?_
    have hm0 : m.toInt ≠ 0 := zcmp_ne.mp hc
    have hm1 := zsub1 (m := m) (by omega) (by omega)
    refine zh_get zJ_183 (a := a) (b := 7) (c := 9) (z := 0) rfl (k' := 11) rfl he1 g7 ?_
    refine zh zJ_183 (i := (0, 0, 0, 1)) rfl rfl (k' := 12) (lo' := [(0, .ref a)]) (st' := [.int (Int32.ofInt (1)), .int m, .ref a]) (h' := h1) rfl ?_
    refine zh zJ_183 (i := (9, 0, 0, 0)) rfl rfl (k' := 13) (lo' := [(0, .ref a)]) (st' := [.int (m - (Int32.ofInt (1))), .ref a]) (h' := h1) rfl ?_
    obtain ⟨T2, F2⟩ := zwf' (ms := zcM zC31) (b := 7) (v := .int (m - Int32.ofInt (1))) (V := (0, 0, 12)) T1 ha he1 (by omega) ⟨_, rfl, by omega, by omega⟩ (by decide +kernel) (by decide +kernel)
    have he2 := zset_eq (e := .inr (9, gs.set 7 (.int (m - Int32.ofInt (1))))) he1
    have g72 : (gs.set 7 (.int (m - Int32.ofInt (1))))[7]? = some (.int (m - Int32.ofInt (1))) := List.getElem?_set_self (by omega)
    have hl2 : (gs.set 7 (.int (m - Int32.ofInt (1)))).length = 23 := by rw [List.length_set]; exact hl1
    refine zh_put zJ_183 (b := 7) (c := 9) (z := 0) rfl (k' := 14) rfl he1 (by omega) rfl ?_
    generalize gs.set 7 (.int (m - Int32.ofInt (1))) = gs2 at T2 F2 he2 hl2 g72 ⊢
    generalize h1.set a (.inr (9, gs2)) = h2 at T2 F2 he2 ⊢
    refine zh zJ_183 (i := (0, 0, 0, 0)) rfl rfl (k' := 15) (lo' := [(0, .ref a)]) (st' := [.int (Int32.ofInt (0))]) (h' := h2) rfl ?_
    refine zh zJ_183 (i := (4, 1, 0, 0)) rfl rfl (k' := 16) (lo' := [(1, .int (Int32.ofInt (0))), (0, .ref a)]) (st' := []) (h' := h2) rfl ?_
    obtain ⟨w1, g1, hw1⟩ := zfd2 (b := 5) (u := 25) T2 ha he2 (by omega) (by decide +kernel)
    obtain ⟨w2, g2, hw2⟩ := zfd2 (b := 1) (u := 21) T2 ha he2 (by omega) (by decide +kernel)
    obtain ⟨f1, hf1⟩ := zcell1 (n := 4656) T2 hw1 rfl rfl
    obtain ⟨g, hg⟩ := zcell1 (n := 2086) T2 hw2 rfl rfl
    refine zLp_183 (m := m - Int32.ofInt (1)) (mn := (m.toInt - 1).toNat) (by omega) (by omega) g72 ha hw1 hw2 g1 g2 (ms := zcM zC31) (by decide +kernel) (fun x h3 q => ?_) ⟨T2, F1.tr zExt.rf F2, he2, hf1, g, hg, fun k hk => absurd hk (by omega)⟩
    obtain ⟨T3, F3, -⟩ := q
    refine zh zJ_183 (i := (0, 0, 0, 1)) rfl rfl (k' := 35) (lo' := [(1, .int x), (0, .ref a)]) (st' := [.int (Int32.ofInt (1))]) (h' := h3) rfl ?_
    refine zh_iret zJ_183 (a := 0) (b := 0) (z := 0) rfl (Or.inr ⟨rfl, Or.inr rfl⟩) ?_
    exact hret _ h3 T3 F3 (by decide) (by decide)
  · refine zh zJ_183 (i := (0, 0, 0, 0)) rfl rfl (k' := 7) (lo' := [(0, .ref a)]) (st' := [.int (Int32.ofInt (0))]) (h' := h1) rfl ?_
    refine zh_iret zJ_183 (a := 0) (b := 0) (z := 0) rfl (Or.inr ⟨rfl, Or.inl rfl⟩) ?_
    exact hret _ h1 T1 F1 (by decide) (by decide)
set_option maxRecDepth 100000 in
theorem zV_30 : zVd z_tt zE1 zC30 := by
  intro sx d ty h as hd T E hA
  match as, hA with
  | [va], hA =>
  obtain ⟨a, t, rfl, ha, t1, t2⟩ := hA.1
  have et : t = 20 := by omega
  subst et
  show z_ok sx d 182 0 [(0, .ref a)] [] h _
  obtain ⟨fs, he, hl⟩ := zcell0 (c := 9) (n := 23) T ha rfl rfl rfl
  obtain ⟨m, g7, m1, m2⟩ := zfd0 (b := 7) (lo := 0) (hi := 12) T ha he (by omega) (by decide +kernel)
  have last : ∀ (h2 : zH) (gs2 : List Value) (m9 : Int32), zTY z_tt ty h2 → zFm (zcM zC30) ty h h2 → h2[a]? = some (.inr (9, gs2)) → gs2.length = 23 → gs2[7]? = some (.int m9) → 1 ≤ m9.toInt → m9.toInt ≤ 12 → z_ok sx d 182 30 [(1, .int (Int32.ofInt (0))), (0, .ref a)] [] h2 (zPo z_tt zE1 zC30 ty h) := by
    intro h2 gs2 m9 T2 F2 he2 hl2 g72 b1 b2
    have hm1 := zsub1 (m := m9) (by omega) (by omega)
    obtain ⟨w1, g1, hw1⟩ := zfd2 (b := 1) (u := 21) T2 ha he2 (by omega) (by decide +kernel)
    obtain ⟨w2, g2, hw2⟩ := zfd2 (b := 5) (u := 25) T2 ha he2 (by omega) (by decide +kernel)
    obtain ⟨f1, hf1⟩ := zcell1 (n := 2086) T2 hw1 rfl rfl
    obtain ⟨g, hg⟩ := zcell1 (n := 4656) T2 hw2 rfl rfl
    refine zLp_182 (m := m9) (mn := (m9.toInt - 1).toNat) (by omega) (by omega) g72 ha hw1 hw2 g1 g2 (ms := zcM zC30) ?_ (fun x h3 q => ?_) ⟨T2, F2, he2, hf1, g, hg, fun k hk => absurd hk (by omega)⟩
    · have h9 : zcv (zcM zC30) 25 0 4655 = true := by decide +kernel
      unfold zcv at h9 ⊢
      obtain ⟨q, hq, h8⟩ := List.any_eq_true.mp h9
      refine List.any_eq_true.mpr ⟨q, hq, ?_⟩
      rw [Bool.and_eq_true, Bool.and_eq_true, decide_eq_true_eq, decide_eq_true_eq, decide_eq_true_eq] at h8 ⊢
      omega
    · obtain ⟨T3, F3, -⟩ := q
      refine zh_vret zJ_182 (a := 0) (b := 0) (z := 0) rfl ?_
      exact ⟨ty, zExt.rf, T3, zE1_stable (by decide +kernel) ty h h3 T T3 (T.len T3) F3 E, F3, trivial, Nat.le_refl _, Nat.le_refl _⟩
  refine zh zJ_182 (i := (2, 0, 0, 0)) rfl rfl (k' := 1) (lo' := [(0, .ref a)]) (st' := [.ref a]) (h' := h) rfl ?_
  refine zh_get zJ_182 (a := a) (b := 7) (c := 9) (z := 0) rfl (k' := 2) rfl he g7 ?_
  refine zh zJ_182 (i := (0, 0, 0, 12)) rfl rfl (k' := 3) (lo' := [(0, .ref a)]) (st' := [.int (Int32.ofInt (12)), .int m]) (h' := h) rfl ?_
  refine zh_icmp zJ_182 (a := 22) (b := 1) (z := 0) rfl (fun hc => ?_) (fun hc => ?_)
  · refine zh zJ_182 (i := (2, 0, 0, 0)) rfl rfl (k' := 23) (lo' := [(0, .ref a)]) (st' := [.ref a]) (h' := h) rfl ?_
    refine zh zJ_182 (i := (27, 0, 0, 0)) rfl rfl (k' := 24) (lo' := [(0, .ref a)]) (st' := [.ref a, .ref a]) (h' := h) rfl ?_
    have hm0 : m.toInt ≠ 12 := fun e => zcmp_ne.mp hc (by rw [e, z_of32 (by omega) (by omega)])
    have hm1 := zadd1 (m := m) (by omega) (by omega)
    refine zh_get zJ_182 (a := a) (b := 7) (c := 9) (z := 0) rfl (k' := 25) rfl he g7 ?_
    refine zh zJ_182 (i := (0, 0, 0, 1)) rfl rfl (k' := 26) (lo' := [(0, .ref a)]) (st' := [.int (Int32.ofInt (1)), .int m, .ref a]) (h' := h) rfl ?_
    refine zh zJ_182 (i := (8, 0, 0, 0)) rfl rfl (k' := 27) (lo' := [(0, .ref a)]) (st' := [.int (m + (Int32.ofInt (1))), .ref a]) (h' := h) rfl ?_
    obtain ⟨T2, F2⟩ := zwf' (ms := zcM zC30) (b := 7) (v := .int (m + Int32.ofInt (1))) (V := (0, 0, 12)) T ha he (by omega) ⟨_, rfl, by omega, by omega⟩ (by decide +kernel) (by decide +kernel)
    have he2 := zset_eq (e := .inr (9, fs.set 7 (.int (m + Int32.ofInt (1))))) he
    have g72 : (fs.set 7 (.int (m + Int32.ofInt (1))))[7]? = some (.int (m + Int32.ofInt (1))) := List.getElem?_set_self (by omega)
    have hl2 : (fs.set 7 (.int (m + Int32.ofInt (1)))).length = 23 := by rw [List.length_set]; exact hl
    refine zh_put zJ_182 (b := 7) (c := 9) (z := 0) rfl (k' := 28) rfl he (by omega) rfl ?_
    generalize fs.set 7 (.int (m + Int32.ofInt (1))) = gs2 at T2 F2 he2 hl2 g72 ⊢
    generalize h.set a (.inr (9, gs2)) = h2 at T2 F2 he2 ⊢
    refine zh zJ_182 (i := (0, 0, 0, 0)) rfl rfl (k' := 29) (lo' := [(0, .ref a)]) (st' := [.int (Int32.ofInt (0))]) (h' := h2) rfl ?_
    refine zh zJ_182 (i := (4, 1, 0, 0)) rfl rfl (k' := 30) (lo' := [(1, .int (Int32.ofInt (0))), (0, .ref a)]) (st' := []) (h' := h2) rfl ?_
    exact last h2 gs2 _ T2 F2 he2 hl2 g72 (by omega) (by omega)
  · refine zh zJ_182 (i := (0, 0, 0, 0)) rfl rfl (k' := 5) (lo' := [(0, .ref a)]) (st' := [.int (Int32.ofInt (0))]) (h' := h) rfl ?_
    refine zh zJ_182 (i := (4, 1, 0, 0)) rfl rfl (k' := 6) (lo' := [(1, .int (Int32.ofInt (0))), (0, .ref a)]) (st' := []) (h' := h) rfl ?_
    have hm0 : m.toInt = 12 := by
      by_cases e : m.toInt = 12
      · exact e
      · exact absurd (zcmp_ne.mpr (by rw [z_of32 (by omega) (by omega)]; exact e)) hc
    obtain ⟨w, g5, hw⟩ := zfd2 (b := 5) (u := 25) T ha he (by omega) (by decide +kernel)
    refine zLs_182 (ms := zcM zC30) (h0 := h) ha hw g5 (by decide +kernel) (fun x h2 q => ?_) ⟨T, zFm.rf, he⟩
    obtain ⟨T2, F2, he2⟩ := q
    refine zh zJ_182 (i := (30, 28, 0, 0)) rfl rfl (k' := 28) (lo' := [(1, .int x), (0, .ref a)]) (st' := []) (h' := h2) rfl ?_
    refine zh zJ_182 (i := (0, 0, 0, 0)) rfl rfl (k' := 29) (lo' := [(1, .int x), (0, .ref a)]) (st' := [.int (Int32.ofInt (0))]) (h' := h2) rfl ?_
    refine zh zJ_182 (i := (4, 1, 0, 0)) rfl rfl (k' := 30) (lo' := [(1, .int (Int32.ofInt (0))), (0, .ref a)]) (st' := []) (h' := h2) rfl ?_
    exact last h2 fs m T2 F2 he2 hl g7 (by omega) (by omega)
end
section
/-! isWord by hand; printed with wip/gen/gen_word.py -/
section ZHW
variable {sx : zX} {d j k : Nat} {lo : zL} {st : List Value} {h : zH} {Ψ : zO → zH → Nat → Nat → Prop} {M : zMi} {cs : List zI} {hs : List zHd}
theorem zh_slen {a b t k' i : Nat} {z : Int} {q : String × Nat × String × List Int32} (J : zJ3 j M cs hs) (hi : cs[k]? = some (59, a, b, z)) (hk : k + 1 = k') (hd : 6 ≤ d) (hc : z_cat st ≤ 8) (hq : z_strs[t]? = some q) (hB : i = zB + t) (kk : z_ok sx d j k' lo (.int (Int32.ofNat q.2.2.2.length) :: st) h Ψ) : z_ok sx d j k lo (.ref i :: st) h Ψ := by
  have e1 : zB ≤ i ∧ i - zB = t := by rw [hB]; exact zadd_sub zB t
  have e2 : z_strs[i - zB]? = some q := by rw [e1.2]; exact hq
  have e3 : z_ops.getD (59, a, b, z).1 z_no = zo_slength := rfl
  rw [← hk] at kk
  have e4 := zo_slength_at (sx := sx) (d := d) (a := a) (b := b) (c := z) (k := k) (lo := lo) (h := h) ⟨e1.1, hd, hc⟩ e2 rfl
  exact zh J hi rfl ((congrFun (congrFun (congrFun (congrFun (congrFun (congrFun (congrFun (congrFun (congrFun e3 sx) d) a) b) z) k) lo) _) h).trans e4) kk
theorem zh_schar {a b t k' i : Nat} {z : Int} {x : Int32} {q : String × Nat × String × List Int32} (J : zJ3 j M cs hs) (hi : cs[k]? = some (60, a, b, z)) (hk : k + 1 = k') (hd : 6 ≤ d) (hc : z_cat st ≤ 8) (hq : z_strs[t]? = some q) (hB : i = zB + t) (h1 : 0 ≤ x.toInt) (h2 : x.toInt < (q.2.2.2.length : Int)) (kk : z_ok sx d j k' lo (.int ((q.2.2.2.getD x.toNatClampNeg 0) &&& 255) :: st) h Ψ) : z_ok sx d j k lo (.int x :: .ref i :: st) h Ψ := by
  have e1 : zB ≤ i ∧ i - zB = t := by rw [hB]; exact zadd_sub zB t
  have e2 : z_strs[i - zB]? = some q := by rw [e1.2]; exact hq
  have e3 : z_ops.getD (60, a, b, z).1 z_no = zo_scharAt := rfl
  rw [← hk] at kk
  have e4 := zo_scharAt_at (sx := sx) (d := d) (a := a) (b := b) (c := z) (k := k) (lo := lo) (h := h) ⟨e1.1, hd, hc⟩ e2 (z_inn h1 h2).1 rfl
  exact zh J hi rfl ((congrFun (congrFun (congrFun (congrFun (congrFun (congrFun (congrFun (congrFun (congrFun e3 sx) d) a) b) z) k) lo) _) h).trans e4) kk
end ZHW
theorem zofNat {n : Nat} (h : n ≤ 1000) : (Int32.ofNat n).toInt = (n : Int) := Int32.toInt_ofNat_of_lt (by omega)
theorem zJ_204 : zJ3 204 z_m204 z_c204 z_h204 := ⟨rfl, rfl, rfl⟩
set_option maxRecDepth 100000 in
theorem zLp_204 {sx : zX} {d t a w : Nat} {Ψ : zO → zH → Nat → Nat → Prop} {q : String × Nat × String × List Int32} {h : zH} {gs : List Value} {f : Nat → Int32} {b : Int32} (hd : 8 ≤ d) (hq : z_strs[t]? = some q) (hn : q.2.2.2.length ≤ 100) (he : h[a]? = some (.inr (9, gs))) (hg8 : gs[8]? = some (.ref w)) (hg12 : gs[12]? = some (.int b)) (hb1 : 0 ≤ b.toInt) (hb2 : b.toInt ≤ 400) (hf : h[w]? = some (.inl (1, (400, .inl f)))) (kk : ∀ c : Int32, (c = 0 ∨ c = 1) → Ψ (.inl (some (.int c))) h 0 0) : ∀ (r i : Nat) (x c : Int32), i + r = q.2.2.2.length → x.toInt = (i : Int) → (c = 0 ∨ (c = 1 ∧ b.toInt + (q.2.2.2.length : Int) ≤ 400)) → z_ok sx d 204 14 [(3, .int x), (2, .int c), (0, .ref a), (1, .ref (zB + t))] [] h Ψ
  | r, i, x, c, hr, hx, hc0 => by
    have ih : ∀ (i' : Nat) (x' c' : Int32), i' + (r - 1) = q.2.2.2.length → x'.toInt = (i' : Int) → (c' = 0 ∨ (c' = 1 ∧ b.toInt + (q.2.2.2.length : Int) ≤ 400)) → 0 < r → z_ok sx d 204 14 [(3, .int x'), (2, .int c'), (0, .ref a), (1, .ref (zB + t))] [] h Ψ := fun i' x' c' h1 h2 h3 h4 => by
      cases r with
      | zero => omega
      | succ r => exact zLp_204 hd hq hn he hg8 hg12 hb1 hb2 hf kk r i' x' c' h1 h2 h3
    have hcc : c = 0 ∨ c = 1 := hc0.imp id (fun q => q.1)
    refine zh zJ_204 (i := (1, 2, 0, 0)) rfl rfl (k' := 15) (lo' := [(3, .int x), (2, .int c), (0, .ref a), (1, .ref (zB + t))]) (st' := [.int c]) (h' := h) rfl ?_
    refine zh_if zJ_204 (a := 37) (b := 0) (z := 0) rfl (fun hc => ?_) (fun hc => ?_)
    · refine zh zJ_204 (i := (1, 2, 0, 0)) rfl rfl (k' := 38) (lo' := [(3, .int x), (2, .int c), (0, .ref a), (1, .ref (zB + t))]) (st' := [.int c]) (h' := h) rfl ?_
      refine zh_iret zJ_204 (a := 0) (b := 0) (z := 0) rfl (Or.inr ⟨rfl, hcc⟩) ?_
      exact kk c hcc
    · have hc1 : c = 1 ∧ b.toInt + (q.2.2.2.length : Int) ≤ 400 := hc0.resolve_left (fun e => hc (by rw [e]; exact zcmp_eq.mpr rfl))
      refine zh zJ_204 (i := (1, 3, 0, 0)) rfl rfl (k' := 17) (lo' := [(3, .int x), (2, .int c), (0, .ref a), (1, .ref (zB + t))]) (st' := [.int x]) (h' := h) rfl ?_
      refine zh zJ_204 (i := (2, 1, 0, 0)) rfl rfl (k' := 18) (lo' := [(3, .int x), (2, .int c), (0, .ref a), (1, .ref (zB + t))]) (st' := [.ref (zB + t), .int x]) (h' := h) rfl ?_
      refine zh_slen zJ_204 (a := 0) (b := 0) (z := 0) rfl (k' := 19) rfl (by omega) (Nat.le_of_ble_eq_true rfl) hq rfl ?_
      refine zh_icmp zJ_204 (a := 37) (b := 3) (z := 0) rfl (fun hc => ?_) (fun hc => ?_)
      · refine zh zJ_204 (i := (1, 2, 0, 0)) rfl rfl (k' := 38) (lo' := [(3, .int x), (2, .int c), (0, .ref a), (1, .ref (zB + t))]) (st' := [.int c]) (h' := h) rfl ?_
        refine zh_iret zJ_204 (a := 0) (b := 0) (z := 0) rfl (Or.inr ⟨rfl, hcc⟩) ?_
        exact kk c hcc
      · have hlt : x.toInt < (q.2.2.2.length : Int) := by
          have : ¬ (Int32.ofNat q.2.2.2.length).toInt ≤ x.toInt := fun e => hc (zcmp_ge.mpr e)
          rw [zofNat (by omega)] at this
          omega
        have hix : (b + x).toInt = b.toInt + x.toInt := by
          rw [Int32.toInt_add]
          exact z_bm (by omega) (by omega)
        refine zh zJ_204 (i := (2, 0, 0, 0)) rfl rfl (k' := 21) (lo' := [(3, .int x), (2, .int c), (0, .ref a), (1, .ref (zB + t))]) (st' := [.ref a]) (h' := h) rfl ?_
        refine zh_get zJ_204 (a := a) (b := 8) (c := 9) (z := 0) rfl (k' := 22) rfl he hg8 ?_
        refine zh zJ_204 (i := (2, 0, 0, 0)) rfl rfl (k' := 23) (lo' := [(3, .int x), (2, .int c), (0, .ref a), (1, .ref (zB + t))]) (st' := [.ref a, .ref w]) (h' := h) rfl ?_
        refine zh_get zJ_204 (a := a) (b := 12) (c := 9) (z := 0) rfl (k' := 24) rfl he hg12 ?_
        refine zh zJ_204 (i := (1, 3, 0, 0)) rfl rfl (k' := 25) (lo' := [(3, .int x), (2, .int c), (0, .ref a), (1, .ref (zB + t))]) (st' := [.int x, .int b, .ref w]) (h' := h) rfl ?_
        refine zh zJ_204 (i := (8, 0, 0, 0)) rfl rfl (k' := 26) (lo' := [(3, .int x), (2, .int c), (0, .ref a), (1, .ref (zB + t))]) (st' := [.int (b + x), .ref w]) (h' := h) rfl ?_
        refine zh_bald zJ_204 (z := 0) rfl (k' := 27) rfl hf (by omega) (by omega) ?_
        refine zh zJ_204 (i := (2, 1, 0, 0)) rfl rfl (k' := 28) (lo' := [(3, .int x), (2, .int c), (0, .ref a), (1, .ref (zB + t))]) (st' := [.ref (zB + t), .int (f (b + x).toNatClampNeg)]) (h' := h) rfl ?_
        refine zh zJ_204 (i := (1, 3, 0, 0)) rfl rfl (k' := 29) (lo' := [(3, .int x), (2, .int c), (0, .ref a), (1, .ref (zB + t))]) (st' := [.int x, .ref (zB + t), .int (f (b + x).toNatClampNeg)]) (h' := h) rfl ?_
        refine zh_schar zJ_204 (a := 0) (b := 0) (z := 0) rfl (k' := 30) rfl (by omega) (Nat.le_of_ble_eq_true rfl) hq rfl (by omega) hlt ?_
        refine zh_icmp zJ_204 (a := 33) (b := 1) (z := 0) rfl (fun hc => ?_) (fun hc => ?_)
        · refine zh zJ_204 (i := (0, 0, 0, 0)) rfl rfl (k' := 34) (lo' := [(3, .int x), (2, .int c), (0, .ref a), (1, .ref (zB + t))]) (st' := [.int (Int32.ofInt (0))]) (h' := h) rfl ?_
          refine zh zJ_204 (i := (4, 2, 0, 0)) rfl rfl (k' := 35) (lo' := [(2, .int (Int32.ofInt (0))), (3, .int x), (0, .ref a), (1, .ref (zB + t))]) (st' := []) (h' := h) rfl ?_
          refine zh zJ_204 (i := (7, 3, 0, 1)) rfl rfl (k' := 36) (lo' := [(3, .int (x + Int32.ofInt (1))), (2, .int (Int32.ofInt (0))), (0, .ref a), (1, .ref (zB + t))]) (st' := []) (h' := h) rfl ?_
          refine zh zJ_204 (i := (30, 14, 0, 0)) rfl rfl (k' := 14) (lo' := [(3, .int (x + Int32.ofInt (1))), (2, .int (Int32.ofInt (0))), (0, .ref a), (1, .ref (zB + t))]) (st' := []) (h' := h) rfl ?_
          exact ih (i + 1) _ _ (by omega) (zinc hx (by omega)) (Or.inl rfl) (by omega)
        · refine zh zJ_204 (i := (0, 0, 0, 1)) rfl rfl (k' := 32) (lo' := [(3, .int x), (2, .int c), (0, .ref a), (1, .ref (zB + t))]) (st' := [.int (Int32.ofInt (1))]) (h' := h) rfl ?_
          refine zh zJ_204 (i := (30, 34, 0, 0)) rfl rfl (k' := 34) (lo' := [(3, .int x), (2, .int c), (0, .ref a), (1, .ref (zB + t))]) (st' := [.int (Int32.ofInt (1))]) (h' := h) rfl ?_
          refine zh zJ_204 (i := (4, 2, 0, 0)) rfl rfl (k' := 35) (lo' := [(2, .int (Int32.ofInt (1))), (3, .int x), (0, .ref a), (1, .ref (zB + t))]) (st' := []) (h' := h) rfl ?_
          refine zh zJ_204 (i := (7, 3, 0, 1)) rfl rfl (k' := 36) (lo' := [(3, .int (x + Int32.ofInt (1))), (2, .int (Int32.ofInt (1))), (0, .ref a), (1, .ref (zB + t))]) (st' := []) (h' := h) rfl ?_
          refine zh zJ_204 (i := (30, 14, 0, 0)) rfl rfl (k' := 14) (lo' := [(3, .int (x + Int32.ofInt (1))), (2, .int (Int32.ofInt (1))), (0, .ref a), (1, .ref (zB + t))]) (st' := []) (h' := h) rfl ?_
          exact ih (i + 1) _ _ (by omega) (zinc hx (by omega)) (Or.inr ⟨rfl, hc1.2⟩) (by omega)
set_option maxRecDepth 100000 in
theorem zV_iw (t : Nat) (q : String × Nat × String × List Int32) (hq : z_strs[t]? = some q) (hn : q.2.2.2.length ≤ 100) : zVd z_tt zE1 (204, [(2, 20, 20), (5, (t : Int), (t : Int))], [(0, 0, 1)], [], [], 8, (0, 0, 0, 0), []) := by
  intro sx d ty h as hd T E hA
  match as, hA with
  | [va, vt], hA =>
  obtain ⟨a, u, rfl, ha, t1, t2⟩ := hA.1
  have et : u = 20 := by omega
  subst et
  have hvt : vt = .ref (zB + t) := hA.2.1
  subst hvt
  show z_ok sx d 204 0 [(0, .ref a), (1, .ref (zB + t))] [] h _
  have hd : 8 ≤ d := hd
  obtain ⟨fs, he, hl⟩ := zcell0 (c := 9) (n := 23) T ha rfl rfl rfl
  obtain ⟨e, hg10, e1, e2⟩ := zfd0 (b := 10) (lo := 0) (hi := 400) T ha he (by omega) (by decide +kernel)
  obtain ⟨b, hg12, b1, b2⟩ := zfd0 (b := 12) (lo := 0) (hi := 400) T ha he (by omega) (by decide +kernel)
  obtain ⟨w, hg8, hw⟩ := zfd2 (b := 8) (u := 26) T ha he (by omega) (by decide +kernel)
  obtain ⟨f, hf⟩ := zcell2 (n := 400) T hw rfl rfl
  have kk : ∀ c : Int32, (c = 0 ∨ c = 1) → zPo z_tt zE1 (204, [(2, 20, 20), (5, (t : Int), (t : Int))], [(0, 0, 1)], [], [], 8, (0, 0, 0, 0), []) ty h (.inl (some (.int c))) h 0 0 := fun c hc => ⟨ty, zExt.rf, T, E, zFm.rf, ⟨c, rfl, by rcases hc with rfl | rfl <;> decide, by rcases hc with rfl | rfl <;> decide⟩, Nat.le_refl _, Nat.le_refl _⟩
  have hsub : (e - b).toInt = e.toInt - b.toInt := by
    rw [Int32.toInt_sub]
    exact z_bm (by omega) (by omega)
  refine zh zJ_204 (i := (2, 0, 0, 0)) rfl rfl (k' := 1) (lo' := [(0, .ref a), (1, .ref (zB + t))]) (st' := [.ref a]) (h' := h) rfl ?_
  refine zh_get zJ_204 (a := a) (b := 10) (c := 9) (z := 0) rfl (k' := 2) rfl he hg10 ?_
  refine zh zJ_204 (i := (2, 0, 0, 0)) rfl rfl (k' := 3) (lo' := [(0, .ref a), (1, .ref (zB + t))]) (st' := [.ref a, .int e]) (h' := h) rfl ?_
  refine zh_get zJ_204 (a := a) (b := 12) (c := 9) (z := 0) rfl (k' := 4) rfl he hg12 ?_
  refine zh zJ_204 (i := (9, 0, 0, 0)) rfl rfl (k' := 5) (lo' := [(0, .ref a), (1, .ref (zB + t))]) (st' := [.int (e - b)]) (h' := h) rfl ?_
  refine zh zJ_204 (i := (2, 1, 0, 0)) rfl rfl (k' := 6) (lo' := [(0, .ref a), (1, .ref (zB + t))]) (st' := [.ref (zB + t), .int (e - b)]) (h' := h) rfl ?_
  refine zh_slen zJ_204 (a := 0) (b := 0) (z := 0) rfl (k' := 7) rfl (by omega) (Nat.le_of_ble_eq_true rfl) hq rfl ?_
  refine zh_icmp zJ_204 (a := 10) (b := 1) (z := 0) rfl (fun hc => ?_) (fun hc => ?_)
  · refine zh zJ_204 (i := (0, 0, 0, 0)) rfl rfl (k' := 11) (lo' := [(0, .ref a), (1, .ref (zB + t))]) (st' := [.int (Int32.ofInt (0))]) (h' := h) rfl ?_
    refine zh zJ_204 (i := (4, 2, 0, 0)) rfl rfl (k' := 12) (lo' := [(2, .int (Int32.ofInt (0))), (0, .ref a), (1, .ref (zB + t))]) (st' := []) (h' := h) rfl ?_
    refine zh zJ_204 (i := (0, 0, 0, 0)) rfl rfl (k' := 13) (lo' := [(2, .int (Int32.ofInt (0))), (0, .ref a), (1, .ref (zB + t))]) (st' := [.int (Int32.ofInt (0))]) (h' := h) rfl ?_
    refine zh zJ_204 (i := (4, 3, 0, 0)) rfl rfl (k' := 14) (lo' := [(3, .int (Int32.ofInt (0))), (2, .int (Int32.ofInt (0))), (0, .ref a), (1, .ref (zB + t))]) (st' := []) (h' := h) rfl ?_
    exact zLp_204 hd hq hn he hg8 hg12 b1 b2 hf kk _ 0 _ _ (Nat.zero_add _) rfl (Or.inl rfl)
  · refine zh zJ_204 (i := (0, 0, 0, 1)) rfl rfl (k' := 9) (lo' := [(0, .ref a), (1, .ref (zB + t))]) (st' := [.int (Int32.ofInt (1))]) (h' := h) rfl ?_
    refine zh zJ_204 (i := (30, 11, 0, 0)) rfl rfl (k' := 11) (lo' := [(0, .ref a), (1, .ref (zB + t))]) (st' := [.int (Int32.ofInt (1))]) (h' := h) rfl ?_
    refine zh zJ_204 (i := (4, 2, 0, 0)) rfl rfl (k' := 12) (lo' := [(2, .int (Int32.ofInt (1))), (0, .ref a), (1, .ref (zB + t))]) (st' := []) (h' := h) rfl ?_
    refine zh zJ_204 (i := (0, 0, 0, 0)) rfl rfl (k' := 13) (lo' := [(2, .int (Int32.ofInt (1))), (0, .ref a), (1, .ref (zB + t))]) (st' := [.int (Int32.ofInt (0))]) (h' := h) rfl ?_
    refine zh zJ_204 (i := (4, 3, 0, 0)) rfl rfl (k' := 14) (lo' := [(3, .int (Int32.ofInt (0))), (2, .int (Int32.ofInt (1))), (0, .ref a), (1, .ref (zB + t))]) (st' := []) (h' := h) rfl ?_
    refine zLp_204 hd hq hn he hg8 hg12 b1 b2 hf kk _ 0 _ _ (Nat.zero_add _) rfl (Or.inr ⟨rfl, ?_⟩)
    by_cases hh : (e - b).toInt = (Int32.ofNat q.2.2.2.length).toInt
    · rw [hsub, zofNat (by omega)] at hh
      omega
    · exact absurd (zcmp_ne.mpr hh) hc
theorem zV_0 : zVd z_tt zE1 zC0 := zV_iw 42 _ rfl (by decide)
theorem zV_1 : zVd z_tt zE1 zC1 := zV_iw 43 _ rfl (by decide)
theorem zV_2 : zVd z_tt zE1 zC2 := zV_iw 44 _ rfl (by decide)
theorem zV_3 : zVd z_tt zE1 zC3 := zV_iw 45 _ rfl (by decide)
theorem zV_4 : zVd z_tt zE1 zC4 := zV_iw 46 _ rfl (by decide)
theorem zV_5 : zVd z_tt zE1 zC5 := zV_iw 47 _ rfl (by decide)
theorem zV_6 : zVd z_tt zE1 zC6 := zV_iw 48 _ rfl (by decide)
theorem zV_7 : zVd z_tt zE1 zC7 := zV_iw 49 _ rfl (by decide)
theorem zV_8 : zVd z_tt zE1 zC8 := zV_iw 50 _ rfl (by decide)
theorem zV_9 : zVd z_tt zE1 zC9 := zV_iw 51 _ rfl (by decide)
theorem zV_10 : zVd z_tt zE1 zC10 := zV_iw 52 _ rfl (by decide)
theorem zV_11 : zVd z_tt zE1 zC11 := zV_iw 53 _ rfl (by decide)
theorem zV_12 : zVd z_tt zE1 zC12 := zV_iw 54 _ rfl (by decide)
theorem zV_13 : zVd z_tt zE1 zC13 := zV_iw 55 _ rfl (by decide)
theorem zV_14 : zVd z_tt zE1 zC14 := zV_iw 56 _ rfl (by decide)
theorem zV_15 : zVd z_tt zE1 zC15 := zV_iw 57 _ rfl (by decide)
theorem zV_16 : zVd z_tt zE1 zC16 := zV_iw 58 _ rfl (by decide)
theorem zV_17 : zVd z_tt zE1 zC17 := zV_iw 59 _ rfl (by decide)
theorem zV_18 : zVd z_tt zE1 zC18 := zV_iw 60 _ rfl (by decide)
theorem zV_19 : zVd z_tt zE1 zC19 := zV_iw 61 _ rfl (by decide)
theorem zV_20 : zVd z_tt zE1 zC20 := zV_iw 62 _ rfl (by decide)
theorem zV_21 : zVd z_tt zE1 zC21 := zV_iw 63 _ rfl (by decide)
theorem zV_22 : zVd z_tt zE1 zC22 := zV_iw 64 _ rfl (by decide)
theorem zV_23 : zVd z_tt zE1 zC23 := zV_iw 65 _ rfl (by decide)
theorem zV_24 : zVd z_tt zE1 zC24 := zV_iw 66 _ rfl (by decide)
theorem zV_25 : zVd z_tt zE1 zC25 := zV_iw 67 _ rfl (by decide)
theorem zV_26 : zVd z_tt zE1 zC26 := zV_fm zE1 24 (by decide) (by decide)
theorem zV_27 : zVd z_tt zE1 zC27 := zV_fm zE1 60 (by decide) (by decide)
end
section
/-! calls by hand -/
section ZHC
variable {sx : zX} {d j k : Nat} {lo : zL} {st rest : List Value} {h : zH} {Ψ : zO → zH → Nat → Nat → Prop} {M M' : zMi} {cs : List zI} {hs : List zHd}
theorem zcal54 {j' n r c' : Nat} {c : Int} {xs fs : List Value} (hd : 0 < d) (hst : st = xs ++ .ref r :: rest) (hx : xs.length = n) (hr : h[r]? = some (.inr (c', fs))) (hc : (c' : Int) = c) (hz : z_cat rest ≤ 8) (hM : z_ms[j']? = some M') (hl : (lg_sl (.ref r :: xs.reverse)).length ≤ M'.2.2.2.1) : z_cal (54, j', n, c) d st h = some (j', .ref r :: xs.reverse, rest) := by
  subst hst
  have h0 : z_cal0 (54, j', n, c) d (xs ++ .ref r :: rest) h = some (j', .ref r :: xs.reverse, rest) := by
    unfold z_cal0
    have e1 : ¬ (d = 0 ∨ (xs ++ Value.ref r :: rest).length < n) := by
      rw [List.length_append, List.length_cons]
      omega
    have e2 : (xs ++ Value.ref r :: rest).drop n = .ref r :: rest := by rw [← hx]; exact List.drop_left
    have e3 : (xs ++ Value.ref r :: rest).take n = xs := by rw [← hx]; exact List.take_left
    dsimp only
    rw [if_neg e1, e2, e3]
    dsimp only
    rw [hr]
    dsimp only
    rw [if_pos ⟨hc, hz⟩]
    rfl
  unfold z_cal
  rw [h0]
  dsimp only
  rw [hM]
  dsimp only
  rw [if_pos hl]
theorem zcal55 {j' n : Nat} {c : Int} {xs : List Value} (hd : 0 < d) (hst : st = xs ++ rest) (hx : xs.length = n) (hz : z_cat rest ≤ 8) (hM : z_ms[j']? = some M') (hl : (lg_sl xs.reverse).length ≤ M'.2.2.2.1) : z_cal (55, j', n, c) d st h = some (j', xs.reverse, rest) := by
  subst hst
  have h0 : z_cal0 (55, j', n, c) d (xs ++ rest) h = some (j', xs.reverse, rest) := by
    unfold z_cal0
    have e1 : ¬ (d = 0 ∨ (xs ++ rest).length < n) := by
      rw [List.length_append]
      omega
    have e2 : (xs ++ rest).drop n = rest := by rw [← hx]; exact List.drop_left
    have e3 : (xs ++ rest).take n = xs := by rw [← hx]; exact List.take_left
    dsimp only
    rw [if_neg e1, e2, e3, if_pos hz]
    rfl
  unfold z_cal
  rw [h0]
  dsimp only
  rw [hM]
  dsimp only
  rw [if_pos hl]
/-- a call whose run is known -/
theorem zh_run {j' : Nat} {as : List Value} {i : zI} {Φ : zO → zH → Nat → Nat → Prop} (J : zJ3 j M cs hs) (hi : cs[k]? = some i) (hn : i.1 ≠ 50 ∧ i.1 ≠ 51 ∧ i.1 ≠ 52 ∧ i.1 ≠ 53 ∧ i.1 ≠ 62) (hc : z_cal i d st h = some (j', as, rest)) (R : z_ok sx (d - 1) j' 0 (lv_args 0 as) [] h Φ) (kk : ∀ o h' x y, Φ o h' x y → ∃ v, o = .inl v ∧ x = 0 ∧ y = 0 ∧ z_ok sx d j (k + 1) lo (v.toList ++ rest) h' Ψ) : z_ok sx d j k lo st h Ψ := by
  refine z_ok.call J.1 J.2.1 J.2.2 hi (z_fin_no hn) hc (z_ok.imp R (fun o h' x y q => ?_))
  obtain ⟨v, rfl, rfl, rfl, h9⟩ := kk o h' x y q
  exact h9
/-- a call by a contract that throws nothing and makes nothing -/
theorem zh_con {j' : Nat} {as : List Value} {i : zI} {ct : zCt} {ty : List Nat} (J : zJ3 j M cs hs) (hi : cs[k]? = some i) (hn : i.1 ≠ 50 ∧ i.1 ≠ 51 ∧ i.1 ≠ 52 ∧ i.1 ≠ 53 ∧ i.1 ≠ 62) (hc : z_cal i d st h = some (j', as, rest)) (V : zVd z_tt zE1 ct) (hj : zcJ ct = j') (hd : zcD ct + 1 ≤ d) (he : zcE ct = []) (hk : (zcK ct).1 = 0 ∧ (zcK ct).2.1 = 0) (T : zTY z_tt ty h) (E : zE1 ty h) (hA : zAg ty (zcA ct) as) (kk : ∀ (ty' : List Nat) (h' : zH) (v : Option Value), zExt ty ty' → zTY z_tt ty' h' → zE1 ty' h' → zFm (zcM ct) ty h h' → zRt ty' (zcR ct) v → z_ok sx d j (k + 1) lo (v.toList ++ rest) h' Ψ) : z_ok sx d j k lo st h Ψ := by
  subst hj
  refine zh_run J hi hn hc (V sx (d - 1) ty h as (by omega) T E hA) (fun o h' x y q => ?_)
  obtain ⟨ty', q1, q2, q3, q4, q5⟩ := q
  cases o with
  | inl v =>
    obtain ⟨q5, q6, q7⟩ := q5
    exact ⟨v, rfl, by omega, by omega, kk ty' h' v q1 q2 q3 q4 q5⟩
  | inr e =>
    rw [he] at q5
    exact absurd q5.1 List.not_mem_nil
end ZHC
end
section
/-! hoursTold by hand; printed with wip/gen/gen_hours.py -/
theorem zRt1 {ty : List Nat} {A : zA} {v : Option Value} (h : zRt ty [A] v) : ∃ w, v = some w ∧ zG ty A w := by
  cases v with
  | none => exact h.elim
  | some w => exact ⟨w, rfl, h⟩
theorem zJ_212 : zJ3 212 z_m212 z_c212 z_h212 := ⟨rfl, rfl, rfl⟩
theorem zJ_187 : zJ3 187 z_m187 z_c187 z_h187 := ⟨rfl, rfl, rfl⟩
noncomputable def zC_after : zCt := (208, [(2, 20, 20), (5, 42, 42), (0, 0, 0), (0, 23, 23)], [(0, -1, 23)], [], [(20, 10, 10), (20, 12, 12)], 10, (0, 0, 0, 0), [])
theorem zK_after : zck z_tt zCtl zCand 238 zC_after 0 4000 = true := by decide +kernel
theorem zR_187 {sx : zX} {d : Nat} {h : zH} {x : Int32} (h1 : 0 ≤ x.toInt) (h2 : x.toInt ≤ 23) : z_ok sx d 187 0 [(0, .int x)] [] h (fun o h' a b => h' = h ∧ a = 0 ∧ b = 0 ∧ ∃ w : Int32, o = .inl (some (.int w)) ∧ w.toInt = (x.toInt + 1) % 24) := by
  refine zh zJ_187 (i := (1, 0, 0, 0)) rfl rfl (k' := 1) (lo' := [(0, .int x)]) (st' := [.int x]) (h' := h) rfl ?_
  refine zh zJ_187 (i := (0, 0, 0, 1)) rfl rfl (k' := 2) (lo' := [(0, .int x)]) (st' := [.int (Int32.ofInt (1)), .int x]) (h' := h) rfl ?_
  refine zh zJ_187 (i := (8, 0, 0, 0)) rfl rfl (k' := 3) (lo' := [(0, .int x)]) (st' := [.int (x + (Int32.ofInt (1)))]) (h' := h) rfl ?_
  refine zh zJ_187 (i := (0, 0, 0, 24)) rfl rfl (k' := 4) (lo' := [(0, .int x)]) (st' := [.int (Int32.ofInt (24)), .int (x + (Int32.ofInt (1)))]) (h' := h) rfl ?_
  refine zh zJ_187 (i := (12, 0, 0, 0)) rfl rfl (k' := 5) (lo' := [(0, .int x)]) (st' := [.int ((x + Int32.ofInt (1)) - (x + Int32.ofInt (1)) / Int32.ofInt (24) * Int32.ofInt (24))]) (h' := h) rfl ?_
  refine zh_iret zJ_187 (a := 0) (b := 0) (z := 0) rfl (Or.inl rfl) ?_
  refine ⟨rfl, rfl, rfl, _, rfl, ?_⟩
  have e1 := zadd1 (m := x) (by omega) (by omega)
  rw [zrem_ok (by omega) (by decide), e1]
  rfl
set_option maxRecDepth 100000 in
theorem zLp_212 {sx : zX} {d a : Nat} {Ψ : zO → zH → Nat → Nat → Prop} {h : zH} {y f : Int32} (hd : 8 ≤ d) (hy1 : 0 ≤ y.toInt) (hy2 : y.toInt ≤ 23) (kk : ∀ c : Int32, Ψ (.inl (some (.int c))) h 0 0) : ∀ (r : Nat) (x c : Int32), 0 ≤ x.toInt → x.toInt ≤ 23 → (y.toInt - x.toInt) % 24 = (r : Int) → z_ok sx d 212 25 [(4, .int x), (3, .int c), (2, .int y), (1, .int f), (0, .ref a)] [] h Ψ
  | r, x, c, hx1, hx2, hr => by
    have ih : ∀ (x' c' : Int32), 0 ≤ x'.toInt → x'.toInt ≤ 23 → ((y.toInt - x'.toInt) % 24 = (r : Int) - 1 ∧ 1 ≤ (r : Int)) → z_ok sx d 212 25 [(4, .int x'), (3, .int c'), (2, .int y), (1, .int f), (0, .ref a)] [] h Ψ := fun x' c' h1 h2 h3 => by
      cases r with
      | zero => omega
      | succ r => exact zLp_212 hd hy1 hy2 kk r x' c' h1 h2 (by omega)
    refine zh zJ_212 (i := (1, 4, 0, 0)) rfl rfl (k' := 26) (lo' := [(4, .int x), (3, .int c), (2, .int y), (1, .int f), (0, .ref a)]) (st' := [.int x]) (h' := h) rfl ?_
    refine zh zJ_212 (i := (1, 2, 0, 0)) rfl rfl (k' := 27) (lo' := [(4, .int x), (3, .int c), (2, .int y), (1, .int f), (0, .ref a)]) (st' := [.int y, .int x]) (h' := h) rfl ?_
    refine zh_icmp zJ_212 (a := 38) (b := 0) (z := 0) rfl (fun hc => ?_) (fun hc => ?_)
    · refine zh zJ_212 (i := (1, 3, 0, 0)) rfl rfl (k' := 39) (lo' := [(4, .int x), (3, .int c), (2, .int y), (1, .int f), (0, .ref a)]) (st' := [.int c]) (h' := h) rfl ?_
      refine zh_iret zJ_212 (a := 0) (b := 0) (z := 0) rfl (Or.inl rfl) ?_
      exact kk _
    · have hne : x.toInt ≠ y.toInt := fun e => hc (zcmp_eq.mpr e)
      refine zh zJ_212 (i := (1, 3, 0, 0)) rfl rfl (k' := 29) (lo' := [(4, .int x), (3, .int c), (2, .int y), (1, .int f), (0, .ref a)]) (st' := [.int c]) (h' := h) rfl ?_
      refine zh zJ_212 (i := (0, 0, 0, 1)) rfl rfl (k' := 30) (lo' := [(4, .int x), (3, .int c), (2, .int y), (1, .int f), (0, .ref a)]) (st' := [.int (Int32.ofInt (1)), .int c]) (h' := h) rfl ?_
      refine zh zJ_212 (i := (1, 4, 0, 0)) rfl rfl (k' := 31) (lo' := [(4, .int x), (3, .int c), (2, .int y), (1, .int f), (0, .ref a)]) (st' := [.int x, .int (Int32.ofInt (1)), .int c]) (h' := h) rfl ?_
      refine zh zJ_212 (i := (13, 0, 0, 0)) rfl rfl (k' := 32) (lo' := [(4, .int x), (3, .int c), (2, .int y), (1, .int f), (0, .ref a)]) (st' := [.int ((Int32.ofInt (1)) <<< (x &&& 31)), .int c]) (h' := h) rfl ?_
      refine zh zJ_212 (i := (17, 0, 0, 0)) rfl rfl (k' := 33) (lo' := [(4, .int x), (3, .int c), (2, .int y), (1, .int f), (0, .ref a)]) (st' := [.int (c ||| ((Int32.ofInt (1)) <<< (x &&& 31)))]) (h' := h) rfl ?_
      refine zh zJ_212 (i := (4, 3, 0, 0)) rfl rfl (k' := 34) (lo' := [(3, .int (c ||| ((Int32.ofInt (1)) <<< (x &&& 31)))), (4, .int x), (2, .int y), (1, .int f), (0, .ref a)]) (st' := []) (h' := h) rfl ?_
      refine zh zJ_212 (i := (1, 4, 0, 0)) rfl rfl (k' := 35) (lo' := [(3, .int (c ||| ((Int32.ofInt (1)) <<< (x &&& 31)))), (4, .int x), (2, .int y), (1, .int f), (0, .ref a)]) (st' := [.int x]) (h' := h) rfl ?_
      refine zh_run zJ_212 (i := (55, 187, 1, 0)) (rest := []) (as := [.int x]) rfl (by decide) (zcal55 (xs := [.int x]) (by omega) rfl rfl (Nat.le_of_ble_eq_true rfl) (M' := z_m187) rfl (Nat.le_of_ble_eq_true rfl)) (zR_187 hx1 hx2) (fun o h' a9 b9 q => ?_)
      obtain ⟨rfl, rfl, rfl, w, rfl, hw⟩ := q
      refine ⟨_, rfl, rfl, rfl, ?_⟩
      show z_ok sx d 212 36 [(3, .int (c ||| ((Int32.ofInt (1)) <<< (x &&& 31)))), (4, .int x), (2, .int y), (1, .int f), (0, .ref a)] [.int w] h' Ψ
      refine zh zJ_212 (i := (4, 4, 0, 0)) rfl rfl (k' := 37) (lo' := [(4, .int w), (3, .int (c ||| ((Int32.ofInt (1)) <<< (x &&& 31)))), (2, .int y), (1, .int f), (0, .ref a)]) (st' := []) (h' := h') rfl ?_
      refine zh zJ_212 (i := (30, 25, 0, 0)) rfl rfl (k' := 25) (lo' := [(4, .int w), (3, .int (c ||| ((Int32.ofInt (1)) <<< (x &&& 31)))), (2, .int y), (1, .int f), (0, .ref a)]) (st' := []) (h' := h') rfl ?_
      exact ih w _ (by omega) (by omega) (by omega)
set_option maxRecDepth 100000 in
theorem zV_238 (H : ∀ c, c < 238 → ∀ c', zCtl[c]? = some c' → zVd z_tt zE1 c') : zVd z_tt zE1 zC238 := by
  intro sx d ty h as hd T E hA
  match as, hA with
  | [va], hA =>
  obtain ⟨a, t, rfl, ha, t1, t2⟩ := hA.1
  have et : t = 20 := by omega
  subst et
  show z_ok sx d 212 0 [(0, .ref a)] [] h _
  obtain ⟨fs, he, hl⟩ := zcell0 (c := 9) (n := 23) T ha rfl rfl rfl
  have hd : 20 ≤ d := hd
  have last : ∀ (ty2 : List Nat) (h2 : zH) (f y : Int32), zExt ty ty2 → zTY z_tt ty2 h2 → zE1 ty2 h2 → zFm (zcM zC238) ty h h2 → y.toInt ≤ 23 → (0 ≤ y.toInt → 0 ≤ f.toInt ∧ f.toInt ≤ 23) → z_ok sx d 212 14 [(1, .int f), (0, .ref a)] [.int y] h2 (zPo z_tt zE1 zC238 ty h) := by
    intro ty2 h2 f y X2 T2 E2 F2 hy2 hyf
    have hret : ∀ v : Int32, zPo z_tt zE1 zC238 ty h (.inl (some (.int v))) h2 0 0 := fun v => ⟨ty2, X2, T2, E2, F2, zFull_ok (ty := ty2) v, Nat.le_refl _, Nat.le_refl _⟩
    refine zh zJ_212 (i := (4, 2, 0, 0)) rfl rfl (k' := 15) (lo' := [(2, .int y), (1, .int f), (0, .ref a)]) (st' := []) (h' := h2) rfl ?_
    refine zh zJ_212 (i := (1, 2, 0, 0)) rfl rfl (k' := 16) (lo' := [(2, .int y), (1, .int f), (0, .ref a)]) (st' := [.int y]) (h' := h2) rfl ?_
    refine zh_if zJ_212 (a := 19) (b := 3) (z := 0) rfl (fun hc => ?_) (fun hc => ?_)
    · have hy1 : 0 ≤ y.toInt := zcmp_ge.mp hc
      obtain ⟨f1, f2⟩ := hyf hy1
      refine zh zJ_212 (i := (0, 0, 0, 1)) rfl rfl (k' := 20) (lo' := [(2, .int y), (1, .int f), (0, .ref a)]) (st' := [.int (Int32.ofInt (1))]) (h' := h2) rfl ?_
      refine zh zJ_212 (i := (1, 2, 0, 0)) rfl rfl (k' := 21) (lo' := [(2, .int y), (1, .int f), (0, .ref a)]) (st' := [.int y, .int (Int32.ofInt (1))]) (h' := h2) rfl ?_
      refine zh zJ_212 (i := (13, 0, 0, 0)) rfl rfl (k' := 22) (lo' := [(2, .int y), (1, .int f), (0, .ref a)]) (st' := [.int ((Int32.ofInt (1)) <<< (y &&& 31))]) (h' := h2) rfl ?_
      refine zh zJ_212 (i := (4, 3, 0, 0)) rfl rfl (k' := 23) (lo' := [(3, .int ((Int32.ofInt (1)) <<< (y &&& 31))), (2, .int y), (1, .int f), (0, .ref a)]) (st' := []) (h' := h2) rfl ?_
      refine zh zJ_212 (i := (1, 1, 0, 0)) rfl rfl (k' := 24) (lo' := [(3, .int ((Int32.ofInt (1)) <<< (y &&& 31))), (2, .int y), (1, .int f), (0, .ref a)]) (st' := [.int f]) (h' := h2) rfl ?_
      refine zh zJ_212 (i := (4, 4, 0, 0)) rfl rfl (k' := 25) (lo' := [(4, .int f), (3, .int ((Int32.ofInt (1)) <<< (y &&& 31))), (2, .int y), (1, .int f), (0, .ref a)]) (st' := []) (h' := h2) rfl ?_
      exact zLp_212 (by omega) hy1 hy2 hret _ f _ f1 f2 (Int.toNat_of_nonneg (Int.emod_nonneg _ (by decide))).symm
    · refine zh zJ_212 (i := (0, 0, 0, -1)) rfl rfl (k' := 18) (lo' := [(2, .int y), (1, .int f), (0, .ref a)]) (st' := [.int (Int32.ofInt (-1))]) (h' := h2) rfl ?_
      refine zh_iret zJ_212 (a := 0) (b := 0) (z := 0) rfl (Or.inl rfl) ?_
      exact hret _
  refine zh zJ_212 (i := (2, 0, 0, 0)) rfl rfl (k' := 1) (lo' := [(0, .ref a)]) (st' := [.ref a]) (h' := h) rfl ?_
  refine zh zJ_212 (i := (0, 0, 0, 0)) rfl rfl (k' := 2) (lo' := [(0, .ref a)]) (st' := [.int (Int32.ofInt (0)), .ref a]) (h' := h) rfl ?_
  refine zh zJ_212 (i := (0, 0, 0, 23)) rfl rfl (k' := 3) (lo' := [(0, .ref a)]) (st' := [.int (Int32.ofInt (23)), .int (Int32.ofInt (0)), .ref a]) (h' := h) rfl ?_
  refine zh_con zJ_212 (i := (54, 207, 2, 9)) (rest := []) (as := [.ref a, .int (Int32.ofInt (0)), .int (Int32.ofInt (23))]) rfl (by decide) (zcal54 (xs := [.int (Int32.ofInt (23)), .int (Int32.ofInt (0))]) (by omega) rfl rfl he rfl (Nat.le_of_ble_eq_true rfl) (M' := z_m207) rfl (Nat.le_of_ble_eq_true rfl)) (H 232 (by decide) zC232 rfl) rfl (by show 2 + 1 ≤ d; omega) rfl ⟨rfl, rfl⟩ T E ⟨⟨a, 20, rfl, ha, Int.le_refl _, Int.le_refl _⟩, zK0 (by decide) (by decide), zK0 (by decide) (by decide), trivial⟩ (fun ty1 h1 v X1 T1 E1 F1 R1 => ?_)
  obtain ⟨w, rfl, f, rfl, f1, f2⟩ := zRt1 R1
  show z_ok sx d 212 4 [(0, .ref a)] [.int f] h1 _
  refine zh zJ_212 (i := (4, 1, 0, 0)) rfl rfl (k' := 5) (lo' := [(1, .int f), (0, .ref a)]) (st' := []) (h' := h1) rfl ?_
  refine zh zJ_212 (i := (1, 1, 0, 0)) rfl rfl (k' := 6) (lo' := [(1, .int f), (0, .ref a)]) (st' := [.int f]) (h' := h1) rfl ?_
  refine zh_if zJ_212 (a := 9) (b := 3) (z := 0) rfl (fun hc => ?_) (fun hc => ?_)
  · have f0 : 0 ≤ f.toInt := zcmp_ge.mp hc
    refine zh zJ_212 (i := (2, 0, 0, 0)) rfl rfl (k' := 10) (lo' := [(1, .int f), (0, .ref a)]) (st' := [.ref a]) (h' := h1) rfl ?_
    refine zh zJ_212 (i := (58, 42, 0, 0)) rfl rfl (k' := 11) (lo' := [(1, .int f), (0, .ref a)]) (st' := [.ref (zB + 42), .ref a]) (h' := h1) rfl ?_
    refine zh zJ_212 (i := (0, 0, 0, 0)) rfl rfl (k' := 12) (lo' := [(1, .int f), (0, .ref a)]) (st' := [.int (Int32.ofInt (0)), .ref (zB + 42), .ref a]) (h' := h1) rfl ?_
    refine zh zJ_212 (i := (0, 0, 0, 23)) rfl rfl (k' := 13) (lo' := [(1, .int f), (0, .ref a)]) (st' := [.int (Int32.ofInt (23)), .int (Int32.ofInt (0)), .ref (zB + 42), .ref a]) (h' := h1) rfl ?_
    obtain ⟨fs1, he1, hl1⟩ := zcell0 (c := 9) (n := 23) T1 (X1 a 20 ha) rfl rfl rfl
    have V : zVd z_tt zE1 zC_after := zck_ok (zE1_stable (by decide +kernel)) H zK_after
    refine zh_con zJ_212 (i := (54, 208, 3, 9)) (rest := []) (as := [.ref a, .ref (zB + 42), .int (Int32.ofInt (0)), .int (Int32.ofInt (23))]) rfl (by decide) (zcal54 (xs := [.int (Int32.ofInt (23)), .int (Int32.ofInt (0)), .ref (zB + 42)]) (by omega) rfl rfl he1 rfl (Nat.le_of_ble_eq_true rfl) (M' := z_m208) rfl (Nat.le_of_ble_eq_true rfl)) V rfl (by show 10 + 1 ≤ d; omega) rfl ⟨rfl, rfl⟩ T1 E1 ⟨⟨a, 20, rfl, X1 a 20 ha, Int.le_refl _, Int.le_refl _⟩, rfl, zK0 (by decide) (by decide), zK0 (by decide) (by decide), trivial⟩ (fun ty2 h2 v X2 T2 E2 F2 R2 => ?_)
    obtain ⟨w, rfl, y, rfl, y1, y2⟩ := zRt1 R2
    exact last ty2 h2 f y (X1.tr X2) T2 E2 (F1.tr X1 F2) y2 (fun _ => ⟨f0, f2⟩)
  · refine zh zJ_212 (i := (0, 0, 0, -1)) rfl rfl (k' := 8) (lo' := [(1, .int f), (0, .ref a)]) (st' := [.int (Int32.ofInt (-1))]) (h' := h1) rfl ?_
    refine zh zJ_212 (i := (30, 14, 0, 0)) rfl rfl (k' := 14) (lo' := [(1, .int f), (0, .ref a)]) (st' := [.int (Int32.ofInt (-1))]) (h' := h1) rfl ?_
    exact last ty1 h1 f (Int32.ofInt (-1)) X1 T1 E1 F1 (by decide) (fun e => absurd e (by decide))
end
section
/-! pieces by the checker inside a proof by hand; isTrue of the class -/
theorem zget_set1_ne {lo : zL} {a i : Nat} {v w : Value} (h : z_get lo i = some w) (hne : i ≠ a) (hc : w.category = 1) : z_get (z_set1 lo a v) i = some w := by
  refine zget_cons (zget_filter h (fun q q1 q2 => ?_)) hne
  rw [q1, q2, hc]
  have e : (i == a) = false := by simpa using hne
  rw [e]
  simp
section ZHG
variable {sx : zX} {d j k : Nat} {lo : zL} {st : List Value} {h : zH} {Ψ : zO → zH → Nat → Nat → Prop} {M : zMi} {cs : List zI} {hs : List zHd}
theorem zh_ild {a b k' : Nat} {z : Int} {x : Int32} (J : zJ3 j M cs hs) (hi : cs[k]? = some (1, a, b, z)) (hk : k + 1 = k') (hg : z_get lo a = some (.int x)) (kk : z_ok sx d j k' lo (.int x :: st) h Ψ) : z_ok sx d j k lo st h Ψ := by
  refine zh J hi rfl ?_ kk
  show zo_iload sx d a b z k lo st h = _
  unfold zo_iload
  rw [hg, ← hk]
theorem zh_ald {a b k' r : Nat} {z : Int} (J : zJ3 j M cs hs) (hi : cs[k]? = some (2, a, b, z)) (hk : k + 1 = k') (hg : z_get lo a = some (.ref r)) (kk : z_ok sx d j k' lo (.ref r :: st) h Ψ) : z_ok sx d j k lo st h Ψ := by
  refine zh J hi rfl ?_ kk
  show zo_aload sx d a b z k lo st h = _
  unfold zo_aload
  rw [hg, ← hk]
theorem zh_ist {a b k' : Nat} {z : Int} {x : Int32} (J : zJ3 j M cs hs) (hi : cs[k]? = some (4, a, b, z)) (hk : k + 1 = k') (kk : z_ok sx d j k' (z_set1 lo a (.int x)) st h Ψ) : z_ok sx d j k lo (.int x :: st) h Ψ := by
  refine zh J hi rfl ?_ kk
  show zo_istore sx d a b z k lo (.int x :: st) h = _
  rw [← hk]
  rfl
theorem zh_alen {a b k' r n : Nat} {z : Int} {f : Nat → Int32} (J : zJ3 j M cs hs) (hi : cs[k]? = some (46, a, b, z)) (hk : k + 1 = k') (he : h[r]? = some (.inl (0, (n, .inl f)))) (kk : z_ok sx d j k' lo (.int (Int32.ofNat n) :: st) h Ψ) : z_ok sx d j k lo (.ref r :: st) h Ψ := by
  refine zh J hi rfl ?_ kk
  show zo_alen sx d a b z k lo (.ref r :: st) h = _
  unfold zo_alen
  dsimp only
  rw [he, ← hk]
  rfl
end ZHG
/-- from one place to the next cut, by the checker -/
theorem zseg {own : Nat} {ct : zCt} {c0 : zCut} {fuel : Nat} {ty0 : List Nat} {h0 : zH} {sx : zX} {d0 : Nat} {ty : List Nat} {lo : zL} {h : zH} {vl : List Value} (hst : zStable z_tt zE1 (zcM ct)) (hd : zcD ct ≤ d0) (hcts : ∀ c, c < own → ∀ c', zCtl[c]? = some c' → zVd z_tt zE1 c') (hck : zx z_tt zCtl zCand own ct (some c0) fuel (zc_st ct c0) = true) (hm : c0.2.2.1 = []) (a2 : zExt ty0 ty) (T : zTY z_tt ty h) (E : zE1 ty h) (F : zFm (zcM ct) ty0 h0 h) (H1 : zVl ty lo c0.2.1 vl) (hcut : ∀ c ∈ zcC ct, ∀ (ty' : List Nat) (lo' : zL) (h' : zH) (vl' vm' : List Value), zExt ty0 ty' → zTY z_tt ty' h' → zE1 ty' h' → zFm (zcM ct) ty0 h0 h' → zVl ty' lo' c.2.1 vl' → zVm ty' lo' h' c.2.2.1 vm' → zlex (c.2.2.2.map (zmc lo' h')) (c0.2.2.2.map (zmc lo h)) → zGo sx d0 (zPo z_tt zE1 ct ty0 h0) [(zcJ ct, c.1, lo', [])] h' 0 0) : zGo sx d0 (zPo z_tt zE1 ct ty0 h0) [(zcJ ct, c0.1, lo, [])] h 0 0 := by
  have H2 : zVm ty lo h c0.2.2.1 [] := by rw [hm]; trivial
  refine zx_ok (ρ0 := vl ++ []) hst hd hcts (fun s cf h' X Y R hh => ?_) fuel (zc_st ct c0) _ h 0 0 (zc_start a2 T E F H1 H2) hck
  obtain ⟨c', hc', ty', lo', vl', vm', rfl, rfl, rfl, p2, p3, p4, p5, p6, p7, p8⟩ := zhit_ok R hh
  exact hcut c' hc' ty' lo' h' vl' vm' p2 p3 p4 p5 p6 p7 (p8 c0 rfl lo h (zc_lo H1) (zc_mm H1 H2))
noncomputable def zT4 : zCut := (4, [(0, (2, 100, 112)), (1, (0, 0, 400)), (2, (0, 0, 400)), (3, (2, 12, 12)), (4, (0, 0, 32)), (5, (0, 0, 400))], [], [(1, 5, 0, 400)])
noncomputable def zT17 : zCut := (17, [(0, (2, 100, 112)), (1, (0, 0, 400)), (2, (0, 0, 400)), (3, (2, 12, 12)), (4, (0, 0, 32)), (5, (0, 0, 399)), (6, zFull)], [], [(1, 5, 0, 400)])
noncomputable def zT77 : zCut := (77, [(0, (2, 100, 112)), (1, (0, 0, 400)), (2, (0, 0, 400))], [], [(0, 0, 0, 0)])
noncomputable def zC_T : zCt := (43, [(2, 100, 112), (0, 0, 400), (0, 0, 400), (2, 12, 12)], [(0, 0, 1)], [], [(34, 0, 31)], 8, (0, 0, 0, 0), [zT4])
theorem zK_T17 : zx z_tt zCtl zCand 34 zC_T (some zT17) 4000 (zc_st zC_T zT17) = true := by decide +kernel
theorem zK_T77 : zx z_tt zCtl zCand 34 zC_T (some zT77) 4000 (zc_st zC_T zT77) = true := by decide +kernel
end
section
/-! isTrue and sumOf of the class -/
theorem ztt100 {t : Nat} (h1 : 100 ≤ t) (h2 : t ≤ 112) : z_tt t = (0, 2, 6, [(0, 0, (0, ((t - 100 : Nat) : Int), ((t - 100 : Nat) : Int))), (1, 2, (2, ((t + 40 : Nat) : Int), ((t + 40 : Nat) : Int))), (3, 3, (2, ((t + 20 : Nat) : Int), ((t + 20 : Nat) : Int))), (4, 4, (2, 1000, 1400)), (5, 5, (2, 34, 34))]) := by
  unfold z_tt
  rw [if_neg (by omega), if_pos ⟨h1, h2⟩]
theorem ztt1000 {t : Nat} (h1 : 1000 ≤ t) (h2 : t ≤ 1400) : z_tt t = (1, 0, t - 1000, [(0, ((t : Nat) : Int) - 1001, zFull)]) := by
  unfold z_tt
  rw [if_neg (by omega), if_neg (by omega), if_neg (by omega), if_neg (by omega), if_pos ⟨h1, h2⟩]
theorem zmc5 {lo : zL} {h : zH} {x : Int32} (hg : z_get lo 5 = some (.int x)) : zmc lo h (1, 5, 0, 400) = (400 - x.toInt).toNat := by
  unfold zmc
  rw [if_neg (by decide), if_pos (Or.inl rfl)]
  unfold zcv2
  rw [if_pos (by decide), hg]
theorem zJ_43 : zJ3 43 z_m43 z_c43 z_h43 := ⟨rfl, rfl, rfl⟩
set_option maxRecDepth 100000 in
theorem zLp_T {sx : zX} {d0 : Nat} {ty0 : List Nat} {h0 : zH} (hd : 8 ≤ d0) (H : ∀ c, c < 34 → ∀ c', zCtl[c]? = some c' → zVd z_tt zE1 c') : ∀ (m : Nat) (ty : List Nat) (lo : zL) (h : zH) (vl : List Value), zExt ty0 ty → zTY z_tt ty h → zE1 ty h → zFm (zcM zC_T) ty0 h0 h → zVl ty lo zT4.2.1 vl → zmc lo h (1, 5, 0, 400) = m → zGo sx d0 (zPo z_tt zE1 zC_T ty0 h0) [(43, 4, lo, [])] h 0 0 := by
  intro m
  induction m using Nat.strongRecOn with
  | ind m ih =>
  intro ty lo h vl X T E F H1 hm
  match vl, H1 with
  | [v0, v1, v2, v3, v4, v5], H1 =>
  obtain ⟨g0, ⟨a, t, rfl, ha, t1, t2⟩, g1, ⟨x1, rfl, p1, q1⟩, g2, ⟨x2, rfl, p2, q2⟩, g3, ⟨b, t3, rfl, hb, t31, t32⟩, g4, ⟨x4, rfl, p4, q4⟩, g5, ⟨x5, rfl, p5, q5⟩, -⟩ := H1
  dsimp only at g0 g1 g2 g3 g4 g5
  rw [zmc5 g5] at hm
  have hstb : zStable z_tt zE1 (zcM zC_T) := zE1_stable (by decide +kernel)
  have e77 : zGo sx d0 (zPo z_tt zE1 zC_T ty0 h0) [(43, 77, lo, [])] h 0 0 := by
    refine zseg (ct := zC_T) (c0 := zT77) (vl := [.ref a, .int x1, .int x2]) hstb hd H zK_T77 rfl X T E F ⟨g0, ⟨a, t, rfl, ha, t1, t2⟩, g1, ⟨x1, rfl, p1, q1⟩, g2, ⟨x2, rfl, p2, q2⟩, trivial⟩ (fun c hc ty' lo' h' vl' vm' _ _ _ _ _ _ hl => ?_)
    rw [List.mem_singleton.mp hc] at hl
    rcases hl with hl | hl
    · exact absurd hl (Nat.not_lt_zero _)
    · exact hl.2.elim
  have z77 : z_ok sx (d0 - 0) 43 77 lo [] h (fun o h' a b => zKx sx d0 (zPo z_tt zE1 zC_T ty0 h0) [] o h' (a + 0) (b + 0)) := e77
  show z_ok sx (d0 - 0) 43 4 lo [] h (fun o h' a b => zKx sx d0 (zPo z_tt zE1 zC_T ty0 h0) [] o h' (a + 0) (b + 0))
  have et := ztt100 (t := t) (by omega) (by omega)
  obtain ⟨fs, he, hl⟩ := zcell0 (c := 2) (n := 6) T ha (by rw [et]) (by rw [et]) (by rw [et])
  obtain ⟨vc, hvc, tc, utc, rfl, hw, u1, u2⟩ := zfd (b := 4) (A := (2, 1000, 1400)) T ha he (by omega) (by rw [et]; rfl)
  have ec := ztt1000 (t := utc) (by omega) (by omega)
  obtain ⟨f, hf⟩ := zcell1 (n := utc - 1000) T hw (by rw [ec]) (by rw [ec])
  refine zh_ild zJ_43 (a := 5) (b := 0) (z := 0) rfl (k' := 5) rfl g5 ?_
  refine zh_ild zJ_43 (a := 2) (b := 0) (z := 0) rfl (k' := 6) rfl g2 ?_
  refine zh_icmp zJ_43 (a := 77) (b := 3) (z := 0) rfl (fun _ => z77) (fun hc => ?_)
  refine zh_ild zJ_43 (a := 5) (b := 0) (z := 0) rfl (k' := 8) rfl g5 ?_
  refine zh_ald zJ_43 (a := 0) (b := 0) (z := 0) rfl (k' := 9) rfl g0 ?_
  refine zh_get zJ_43 (b := 4) (c := 2) (z := 0) rfl (k' := 10) rfl he hvc ?_
  refine zh_alen zJ_43 (a := 0) (b := 0) (z := 0) rfl (k' := 11) rfl hf ?_
  refine zh_icmp zJ_43 (a := 77) (b := 3) (z := 0) rfl (fun _ => z77) (fun hc2 => ?_)
  have hlt : x5.toInt < ((utc - 1000 : Nat) : Int) := by
    have : ¬ (Int32.ofNat (utc - 1000)).toInt ≤ x5.toInt := fun e => hc2 (zcmp_ge.mpr e)
    rw [zofNat (by omega)] at this
    omega
  refine zh_ald zJ_43 (a := 0) (b := 0) (z := 0) rfl (k' := 13) rfl g0 ?_
  refine zh_get zJ_43 (b := 4) (c := 2) (z := 0) rfl (k' := 14) rfl he hvc ?_
  refine zh_ild zJ_43 (a := 5) (b := 0) (z := 0) rfl (k' := 15) rfl g5 ?_
  refine zh_iald zJ_43 (z := 0) rfl (k' := 16) rfl hf p5 hlt ?_
  refine zh_ist zJ_43 (a := 6) (b := 0) (z := 0) rfl (k' := 17) rfl ?_
  have k5 : z_get (z_set1 lo 6 (.int (f x5.toNatClampNeg))) 5 = some (.int x5) := zget_set1_ne g5 (by decide) rfl
  have e17 : zGo sx d0 (zPo z_tt zE1 zC_T ty0 h0) [(43, 17, z_set1 lo 6 (.int (f x5.toNatClampNeg)), [])] h 0 0 := by
    refine zseg (ct := zC_T) (c0 := zT17) (vl := [.ref a, .int x1, .int x2, .ref b, .int x4, .int x5, .int (f x5.toNatClampNeg)]) hstb hd H zK_T17 rfl X T E F ⟨zget_set1_ne g0 (by decide) rfl, ⟨a, t, rfl, ha, t1, t2⟩, zget_set1_ne g1 (by decide) rfl, ⟨x1, rfl, p1, q1⟩, zget_set1_ne g2 (by decide) rfl, ⟨x2, rfl, p2, q2⟩, zget_set1_ne g3 (by decide) rfl, ⟨b, t3, rfl, hb, t31, t32⟩, zget_set1_ne g4 (by decide) rfl, ⟨x4, rfl, p4, q4⟩, k5, ⟨x5, rfl, p5, by omega⟩, zget_self, zFull_ok _, trivial⟩ (fun c hc ty' lo' h' vl' vm' X' T' E' F' H1' _ hlx => ?_)
    have ecc := List.mem_singleton.mp hc
    subst ecc
    rcases hlx with hlx | hlx
    · refine ih _ ?_ ty' lo' h' vl' X' T' E' F' H1' rfl
      have hlx : zmc lo' h' (1, 5, 0, 400) < zmc (z_set1 lo 6 (.int (f x5.toNatClampNeg))) h (1, 5, 0, 400) := hlx
      rw [zmc5 k5, hm] at hlx
      exact hlx
    · exact hlx.2.elim
  exact e17
set_option maxRecDepth 100000 in
theorem zV_T (H : ∀ c, c < 34 → ∀ c', zCtl[c]? = some c' → zVd z_tt zE1 c') : zVd z_tt zE1 zC_T := by
  intro sx d ty h as hd T E hA
  have hd : 8 ≤ d := hd
  match as, hA with
  | [v0, v1, v2, v3], hA =>
  obtain ⟨⟨a, t, rfl, ha, t1, t2⟩, ⟨x1, rfl, p1, q1⟩, ⟨x2, rfl, p2, q2⟩, ⟨b, t3, rfl, hb, t31, t32⟩, -⟩ := hA
  show z_ok sx d 43 0 [(0, .ref a), (1, .int x1), (2, .int x2), (3, .ref b)] [] h _
  refine zh zJ_43 (i := (0, 0, 0, 0)) rfl rfl (k' := 1) (lo' := [(0, .ref a), (1, .int x1), (2, .int x2), (3, .ref b)]) (st' := [.int (Int32.ofInt 0)]) (h' := h) rfl ?_
  refine zh zJ_43 (i := (4, 4, 0, 0)) rfl rfl (k' := 2) (lo' := [(4, .int (Int32.ofInt 0)), (0, .ref a), (1, .int x1), (2, .int x2), (3, .ref b)]) (st' := []) (h' := h) rfl ?_
  refine zh zJ_43 (i := (1, 1, 0, 0)) rfl rfl (k' := 3) (lo' := [(4, .int (Int32.ofInt 0)), (0, .ref a), (1, .int x1), (2, .int x2), (3, .ref b)]) (st' := [.int x1]) (h' := h) rfl ?_
  refine zh zJ_43 (i := (4, 5, 0, 0)) rfl rfl (k' := 4) (lo' := [(5, .int x1), (4, .int (Int32.ofInt 0)), (0, .ref a), (1, .int x1), (2, .int x2), (3, .ref b)]) (st' := []) (h' := h) rfl ?_
  have hgo := zLp_T (sx := sx) (d0 := d) (ty0 := ty) (h0 := h) hd H _ ty [(5, .int x1), (4, .int (Int32.ofInt 0)), (0, .ref a), (1, .int x1), (2, .int x2), (3, .ref b)] h [.ref a, .int x1, .int x2, .ref b, .int (Int32.ofInt 0), .int x1] zExt.rf T E zFm.rf ⟨rfl, ⟨a, t, rfl, ha, t1, t2⟩, rfl, ⟨x1, rfl, p1, q1⟩, rfl, ⟨x2, rfl, p2, q2⟩, rfl, ⟨b, t3, rfl, hb, t31, t32⟩, rfl, ⟨Int32.ofInt 0, rfl, by decide, by decide⟩, rfl, ⟨x1, rfl, p1, q1⟩, trivial⟩ rfl
  refine z_ok.imp hgo (fun o h' x y q => ?_)
  have q : zPo z_tt zE1 zC_T ty h o h' (x + 0) (y + 0) := q
  exact q
end
section
/-! sumOf of the class: by the checker for each count of lines -/
noncomputable def zCandT : List (List Nat) := List.replicate 43 [] ++ [[0]]
noncomputable def zC_S (L : Nat) : zCt := (42, [(2, ((100 + L : Nat) : Int), ((100 + L : Nat) : Int)), zFull, (2, 12, 12)], [zFull], [], [(34, 0, 31)], 20, (0, 0, 0, 0), [(6, [(0, (2, ((100 + L : Nat) : Int), ((100 + L : Nat) : Int))), (1, zFull), (2, (2, 12, 12)), (3, zFull), (4, (0, 0, 400)), (5, (0, 0, (L : Int)))], [], [(1, 5, 0, (L : Int))])])
theorem zK_S : (List.range 13).all (fun L => zck z_tt [zC_T] zCandT 1 (zC_S L) 1 4000) = true := by decide +kernel
theorem zV_243 (H : ∀ c, c < 34 → ∀ c', zCtl[c]? = some c' → zVd z_tt zE1 c') : zVd z_tt zE1 zC243 := by
  intro sx d ty h as hd T E hA
  match as, hA with
  | [v0, v1, v2], hA =>
  obtain ⟨⟨a, t, rfl, ha, t1, t2⟩, h1, h2, -⟩ := hA
  have hK := List.all_eq_true.mp zK_S (t - 100) (List.mem_range.mpr (by omega))
  have V : zVd z_tt zE1 (zC_S (t - 100)) := zck_ok (zE1_stable (ms := [(34, 0, 31)]) (by decide +kernel)) (fun c hc c' hc' => by
    have : c = 0 := by omega
    subst this
    cases hc'
    exact zV_T H) hK
  exact V sx d ty h _ hd T E ⟨⟨a, t, rfl, ha, by omega, by omega⟩, h1, h2, trivial⟩
end
section
/-! pieces by the checker that tell how numbers have changed -/
abbrev zTg : Type := Nat × List (Nat × zA) × List (Nat × Int × zA) × List (zRk × zRk × Int)
noncomputable def zdq (env : List zEn) (loc : zLs) (me : List zMe) (sloc : zLs) (sme : List zMe) (q : zRk × zRk × Int) : Bool := match zvid sloc sme q.2.1, zvid loc me q.1 with
  | some a, some b => decide ((zav env b).1 = 0) && decide (zdel env a b = some q.2.2)
  | _, _ => false
noncomputable def zht1 (tt : Nat → zTy) (ct : zCt) (c0 : zCut) (s : zSt) (f : zAf) (g : zTg) : Bool := decide (g.1 = f.2.1) && (decide (f.1 = zcJ ct) && (f.2.2.2.isEmpty && (decide (s.2.2.2.1 = 0) && (decide (s.2.2.2.2 = 0) && (za_l s.1 f.2.2.1 g.2.1 && (za_m tt s.1 s.2.1 f.2.2.1 g.2.2.1 && g.2.2.2.all (zdq s.1 f.2.2.1 s.2.1 (zc_loc c0) (zc_me c0))))))))
noncomputable def zht (tt : Nat → zTy) (ct : zCt) (c0 : zCut) (gs : List zTg) (s : zSt) : Bool := match s.2.2.1 with
  | [f] => gs.any (zht1 tt ct c0 s f)
  | _ => false
noncomputable def zstop (gs : List zTg) (s : zSt) : Bool := match s.2.2.1 with
  | [f] => gs.any (fun g => g.1 == f.2.1)
  | _ => false
noncomputable def zxs (tt : Nat → zTy) (cts : List zCt) (cand : List (List Nat)) (own : Nat) (ct : zCt) (stop hit : zSt → Bool) : Nat → zSt → Bool
  | 0, _ => false
  | n + 1, s => match zstep tt cts cand own ct s with
    | none => false
    | some l => l.all (fun s' => if stop s' = true then hit s' else zxs tt cts cand own ct stop hit n s')
section ZSEG
variable {tt : Nat → zTy} {Ex : List Nat → zH → Prop} {cts : List zCt} {cand : List (List Nat)} {own : Nat} {ct : zCt} {ty0 : List Nat} {h0 : zH} {ρ0 : List Value} {sx : zX} {d0 : Nat}
theorem zxs_ok {stop hit : zSt → Bool} (hst : zStable tt Ex (zcM ct)) (hd : zcD ct ≤ d0) (hcts : ∀ c, c < own → ∀ c', cts[c]? = some c' → zVd tt Ex c') (hcut : ∀ (s : zSt) (cf : List zCf) (h : zH) (X Y : Nat), zRl tt Ex ct ty0 h0 ρ0 s cf h X Y → hit s = true → zGo sx d0 (zPo tt Ex ct ty0 h0) cf h X Y) : ∀ (n : Nat) (s : zSt) (cf : List zCf) (h : zH) (X Y : Nat), zRl tt Ex ct ty0 h0 ρ0 s cf h X Y → zxs tt cts cand own ct stop hit n s = true → zGo sx d0 (zPo tt Ex ct ty0 h0) cf h X Y
  | 0, _, _, _, _, _, _, hq => by cases hq
  | n + 1, s, cf, h, X, Y, R, hq => by
    rw [zxs] at hq
    split at hq
    case h_1 => cases hq
    next l hl =>
    refine zstep_ok hst hd hcts R hl ⟨fun _ _ _ _ q => q, fun s' hs' cf' h' X' Y' R' => ?_⟩
    have := List.all_eq_true.mp hq s' hs'
    split at this
    · exact hcut s' cf' h' X' Y' R' this
    · exact zxs_ok hst hd hcts hcut n s' cf' h' X' Y' R' this
theorem zdq_ok {ty : List Nat} {ρ ρ1 : List Value} {env : List zEn} {loc sloc : zLs} {me sme : List zMe} {lo lo1 : zL} {h h1 : zH} {q : zRk × zRk × Int} (E : zEv ty ρ env) (L : zLo ρ loc lo) (Mm : zMm h ρ me) (hx : zRx ρ1 ρ) (L1 : zLo ρ1 sloc lo1) (M1 : zMm h1 ρ1 sme) (hq : zdq env loc me sloc sme q = true) : zcv2 lo h q.1 = zcv2 lo1 h1 q.2.1 + q.2.2 := by
  unfold zdq at hq
  split at hq
  case h_2 => cases hq
  next a b ha hb =>
  rw [Bool.and_eq_true, decide_eq_true_eq, decide_eq_true_eq] at hq
  obtain ⟨w, hw⟩ : ∃ w, ρ[b]? = some w := by
    unfold zvid at hb
    split at hb
    · obtain ⟨v, v1, -⟩ := zlk_ok L hb; exact ⟨v, v1⟩
    · split at hb
      · obtain ⟨a9, e9, n9, w9, -, -, -, -, k5⟩ := Mm _ (zml_ok hb); exact ⟨w9, k5⟩
      · cases hb
  obtain ⟨u, hu⟩ : ∃ u, ρ1[a]? = some u := by
    unfold zvid at ha
    split at ha
    · obtain ⟨v, v1, -⟩ := zlk_ok L1 ha; exact ⟨v, v1⟩
    · split at ha
      · obtain ⟨a9, e9, n9, w9, -, -, -, -, k5⟩ := M1 _ (zml_ok ha); exact ⟨w9, k5⟩
      · cases ha
  obtain ⟨x, rfl, x1, x2⟩ := zG0 (E.at hw) hq.1
  obtain ⟨y, y1, y2⟩ := zdel_ok E hw hq.2
  have y3 : ρ1[a]? = some (.int y) := by
    have := hx a u hu
    rw [y1] at this
    rw [hu, ← Option.some.inj this]
  rw [zvid_ok L Mm hb hw, zvid_ok L1 M1 ha y3]
  exact y2
end ZSEG
/-- from one place to the next, by the checker, with what has changed by how much -/
theorem zseg2 {cts : List zCt} {cand : List (List Nat)} {own : Nat} {ct : zCt} {c0 : zCut} {gs : List zTg} {fuel : Nat} {ty0 : List Nat} {h0 : zH} {sx : zX} {d0 : Nat} {ty : List Nat} {lo : zL} {h : zH} {vl vm : List Value} (hst : zStable z_tt zE1 (zcM ct)) (hd : zcD ct ≤ d0) (hcts : ∀ c, c < own → ∀ c', cts[c]? = some c' → zVd z_tt zE1 c') (hck : zxs z_tt cts cand own ct (zstop gs) (zht z_tt ct c0 gs) fuel (zc_st ct c0) = true) (a2 : zExt ty0 ty) (T : zTY z_tt ty h) (E : zE1 ty h) (F : zFm (zcM ct) ty0 h0 h) (H1 : zVl ty lo c0.2.1 vl) (H2 : zVm ty lo h c0.2.2.1 vm) (hcut : ∀ g ∈ gs, ∀ (ty' : List Nat) (lo' : zL) (h' : zH) (vl' vm' : List Value), zExt ty0 ty' → zTY z_tt ty' h' → zE1 ty' h' → zFm (zcM ct) ty0 h0 h' → zVl ty' lo' g.2.1 vl' → zVm ty' lo' h' g.2.2.1 vm' → (∀ q ∈ g.2.2.2, zcv2 lo' h' q.1 = zcv2 lo h q.2.1 + q.2.2) → zGo sx d0 (zPo z_tt zE1 ct ty0 h0) [(zcJ ct, g.1, lo', [])] h' 0 0) : zGo sx d0 (zPo z_tt zE1 ct ty0 h0) [(zcJ ct, c0.1, lo, [])] h 0 0 := by
  refine zxs_ok (ρ0 := vl ++ vm) hst hd hcts (fun s cf h' X Y R hh => ?_) fuel (zc_st ct c0) _ h 0 0 (zc_start a2 T E F H1 H2) hck
  obtain ⟨ty', ρ, a1, b2, b3, b4, b5, b6, b7, b10, b11, b12⟩ := R
  unfold zht at hh
  split at hh
  case h_2 => cases hh
  next f hf =>
  rw [hf] at b10
  match cf, b10 with
  | [(j, k, lo', st)], b10 =>
  obtain ⟨c1, c2, c3, c4, -⟩ := b10
  obtain ⟨g, hg, h9⟩ := List.any_eq_true.mp hh
  unfold zht1 at h9
  simp only [Bool.and_eq_true, decide_eq_true_eq] at h9
  obtain ⟨d1, d2, d3, d4, d5, d6, d7, d8⟩ := h9
  obtain ⟨vl', hvl⟩ := za_l_ok b6 c3 d6
  obtain ⟨vm', hvm⟩ := za_m_ok b3 b6 b7 c3 d7
  have hst9 : st = [] := by
    rw [List.isEmpty_iff.mp d3] at c4
    cases st with
    | nil => rfl
    | cons _ _ => exact c4.elim
  subst hst9
  dsimp only at c1 c2
  have e1 : X = 0 := by omega
  have e2 : Y = 0 := by omega
  subst e1
  subst e2
  have := hcut g hg ty' lo' h' vl' vm' b2 b3 b4 b5 hvl hvm (fun q hq => zdq_ok b6 c3 b7 a1 (zc_lo H1) (zc_mm H1 H2) (List.all_eq_true.mp d8 q hq))
  rw [← c1, ← c2, ← d1, d2]
  exact this
end
section
/-! holdsLine and sumOf of the reference -/
theorem zh_iinc {sx : zX} {d j k : Nat} {lo : zL} {st : List Value} {h : zH} {Ψ : zO → zH → Nat → Nat → Prop} {M : zMi} {cs : List zI} {hs : List zHd} {a b k' : Nat} {z : Int} {x : Int32} (J : zJ3 j M cs hs) (hi : cs[k]? = some (7, a, b, z)) (hk : k + 1 = k') (hg : z_get lo a = some (.int x)) (kk : z_ok sx d j k' (z_set1 lo a (.int (x + Int32.ofInt z))) st h Ψ) : z_ok sx d j k lo st h Ψ := by
  refine zh J hi rfl ?_ kk
  show zo_iinc sx d a b z k lo st h = _
  unfold zo_iinc
  rw [hg, ← hk]
theorem zkeepA {ms : List zMod} {ty : List Nat} {h h' : zH} {w t n : Nat} {f f' : Nat → Int32} (F : zFm ms ty h h') (ht : ty[w]? = some t) (he : h[w]? = some (.inl (0, (n, .inl f)))) (he' : h'[w]? = some (.inl (0, (n, .inl f')))) (hno : ∀ i, ¬ zIn ms t i) : ∀ i, i < n → f' i = f i := fun i hi => by
  have := F.2 w t _ _ ht he he' i (hno i)
  rw [z_rd0, z_rd0, if_pos hi, if_pos hi] at this
  exact Value.int.inj (Option.some.inj this)
theorem zcvl {lo : zL} {h : zH} {a : Nat} {u v : Int} {x : Int32} (hg : z_get lo a = some (.int x)) : zcv2 lo h (1, a, u, v) = x.toInt := by
  unfold zcv2
  rw [if_pos (show 1 ≤ 2 by decide), hg]
noncomputable def zC_H : zCt := (237, [(2, 20, 20), (0, 0, 11), (0, -1, 9), zFull], [(0, 0, 1)], [], [(28, 0, 399)], 20, (0, 0, 0, 0), [])
noncomputable def zH32 (a b c d : Int) : zCut := (32, [(0, (2, 20, 20)), (1, (0, 0, 11)), (2, (0, -1, 9)), (3, zFull), (4, (0, c, d)), (5, (0, 389, 433)), (6, (0, 0, 399)), (7, (0, a, b))], [], [])
noncomputable def zH145 (δ : Int) : zTg := (145, [(0, (2, 20, 20)), (1, (0, 0, 11)), (2, (0, -1, 9)), (3, zFull), (4, (0, 0, 400)), (5, (0, 389, 433)), (6, (0, 0, 399))], [], [((1, 4, 0, 0), (1, 4, 0, 0), δ), ((1, 5, 0, 0), (1, 5, 0, 0), 0), ((1, 6, 0, 0), (1, 6, 0, 0), 0)])
noncomputable def zH147 : zCut := (147, [(0, (2, 20, 20)), (4, (0, 0, 400))], [], [])
theorem zK_H1 : zxs z_tt zCtl zCand 239 zC_H (zstop [zH145 1]) (zht z_tt zC_H (zH32 (-2147483648) 8 0 399) [zH145 1]) 4000 (zc_st zC_H (zH32 (-2147483648) 8 0 399)) = true := by decide +kernel
theorem zK_H2 : zxs z_tt zCtl zCand 239 zC_H (zstop [zH145 0]) (zht z_tt zC_H (zH32 12 12 1 400) [zH145 0]) 4000 (zc_st zC_H (zH32 12 12 1 400)) = true := by decide +kernel
theorem zK_H3 : zxs z_tt zCtl zCand 239 zC_H (zstop [zH145 (-1)]) (zht z_tt zC_H (zH32 9 11 2 400) [zH145 (-1)]) 4000 (zc_st zC_H (zH32 9 11 2 400)) = true := by decide +kernel
theorem zK_H4 : zxs z_tt zCtl zCand 239 zC_H (zstop [zH145 (-1)]) (zht z_tt zC_H (zH32 13 2147483647 2 400) [zH145 (-1)]) 4000 (zc_st zC_H (zH32 13 2147483647 2 400)) = true := by decide +kernel
theorem zK_H5 : zxs z_tt zCtl zCand 239 zC_H (zstop []) (zht z_tt zC_H zH147 []) 4000 (zc_st zC_H zH147) = true := by decide +kernel
theorem zJ_237 : zJ3 237 z_m237 z_c237 z_h237 := ⟨rfl, rfl, rfl⟩
set_option maxRecDepth 100000 in
theorem zLp_H {sx : zX} {d0 : Nat} {ty0 : List Nat} {h0 : zH} {w l : Nat} {fw : Nat → Int32} (hd : 20 ≤ d0) (H : ∀ c, c < 239 → ∀ c', zCtl[c]? = some c' → zVd z_tt zE1 c') (hw0 : ty0[w]? = some 21) (hf0 : h0[w]? = some (.inl (0, (2086, .inl fw)))) (hl : l ≤ 11) : ∀ (n : Nat) (ty : List Nat) (lo : zL) (h : zH) (a i top : Nat) (xl xf xh x4 x5 x6 : Int32), zExt ty0 ty → zTY z_tt ty h → zE1 ty h → zFm (zcM zC_H) ty0 h0 h → z_get lo 0 = some (.ref a) → ty[a]? = some 20 → z_get lo 1 = some (.int xl) → (0 ≤ xl.toInt ∧ xl.toInt ≤ 11) → z_get lo 2 = some (.int xf) → (-1 ≤ xf.toInt ∧ xf.toInt ≤ 9) → z_get lo 3 = some (.int xh) → z_get lo 4 = some (.int x4) → x4.toInt = (top : Int) → top ≤ 400 → z_get lo 5 = some (.int x5) → x5.toInt = ((389 + 4 * l : Nat) : Int) → z_get lo 6 = some (.int x6) → x6.toInt = (i : Int) → n = ((fw (392 + 4 * l)).toInt - (i : Int)).toNat → zPx fw n i top → zGo sx d0 (zPo z_tt zE1 zC_H ty0 h0) [(237, 15, lo, [])] h 0 0 := by
  intro n
  induction n using Nat.strongRecOn with
  | ind n ih =>
  intro ty lo h a i top xl xf xh x4 x5 x6 X T E F g0 ha g1 b1 g2 b2 g3 g4 e4 b4 g5 e5 g6 e6 hn hp
  have hstb : zStable z_tt zE1 (zcM zC_H) := zE1_stable (by decide +kernel)
  have e147 : zGo sx d0 (zPo z_tt zE1 zC_H ty0 h0) [(237, 147, lo, [])] h 0 0 :=
    zseg2 (ct := zC_H) (c0 := zH147) (gs := []) (vl := [.ref a, .int x4]) (vm := []) hstb hd H zK_H5 X T E F ⟨g0, ⟨a, 20, rfl, ha, Int.le_refl _, Int.le_refl _⟩, g4, ⟨x4, rfl, by omega, by omega⟩, trivial⟩ trivial (fun g hg => absurd hg List.not_mem_nil)
  have z147 : z_ok sx (d0 - 0) 237 147 lo [] h (fun o h' a b => zKx sx d0 (zPo z_tt zE1 zC_H ty0 h0) [] o h' (a + 0) (b + 0)) := e147
  show z_ok sx (d0 - 0) 237 15 lo [] h (fun o h' a b => zKx sx d0 (zPo z_tt zE1 zC_H ty0 h0) [] o h' (a + 0) (b + 0))
  obtain ⟨fs, he, hfl⟩ := zcell0 (c := 9) (n := 23) T ha rfl rfl rfl
  obtain ⟨w', hw1, hw2⟩ := zfd2 (b := 1) (u := 21) T ha he (by omega) (by decide +kernel)
  have ew : w' = w := E.1 w' w 21 (by omega) (by omega) hw2 (X w 21 hw0)
  subst ew
  obtain ⟨f, hf⟩ := zcell1 (n := 2086) T hw2 rfl rfl
  have hfw := zkeepA F hw0 hf0 hf (fun i ⟨m, hm, m1, _⟩ => by
    rw [List.mem_singleton.mp hm] at m1
    exact absurd m1 (by decide))
  have ex : (x5 + Int32.ofInt (3)).toInt = ((392 + 4 * l : Nat) : Int) := by
    rw [Int32.toInt_add, e5, show (Int32.ofInt (3)).toInt = 3 from rfl, z_bm (by omega) (by omega)]
    omega
  refine zh_ild zJ_237 (a := 6) (b := 0) (z := 0) rfl (k' := 16) rfl g6 ?_
  refine zh_ald zJ_237 (a := 0) (b := 0) (z := 0) rfl (k' := 17) rfl g0 ?_
  refine zh_get zJ_237 (b := 1) (c := 9) (z := 0) rfl (k' := 18) rfl he hw1 ?_
  refine zh_ild zJ_237 (a := 5) (b := 0) (z := 0) rfl (k' := 19) rfl g5 ?_
  refine zh zJ_237 (i := (0, 0, 0, 3)) rfl rfl (k' := 20) (lo' := lo) (st' := [.int (Int32.ofInt (3)), .int x5, .ref w', .int x6]) (h' := h) rfl ?_
  refine zh zJ_237 (i := (8, 0, 0, 0)) rfl rfl (k' := 21) (lo' := lo) (st' := [.int (x5 + Int32.ofInt (3)), .ref w', .int x6]) (h' := h) rfl ?_
  refine zh_iald zJ_237 (z := 0) rfl (k' := 22) rfl hf (by omega) (by omega) ?_
  rw [znat ex, hfw (392 + 4 * l) (by omega)]
  refine zh_icmp zJ_237 (a := 147) (b := 3) (z := 0) rfl (fun _ => z147) (fun hc => ?_)
  have hlt : (i : Int) < (fw (392 + 4 * l)).toInt := by
    have : ¬ (fw (392 + 4 * l)).toInt ≤ x6.toInt := fun e => hc (zcmp_ge.mpr e)
    omega
  obtain ⟨n', rfl⟩ : ∃ n', n = n' + 1 := ⟨n - 1, by omega⟩
  have hi4 : i < 400 := hp.1
  have hp2 := hp.2
  have e2 : (Int32.ofInt (2) * x6).toInt = 2 * (i : Int) := by
    rw [Int32.toInt_mul, e6, show (Int32.ofInt (2)).toInt = 2 from rfl]
    exact z_bm (by omega) (by omega)
  have ex2 : (Int32.ofInt (437) + Int32.ofInt (2) * x6).toInt = ((437 + 2 * i : Nat) : Int) := by
    rw [Int32.toInt_add, e2, show (Int32.ofInt (437)).toInt = 437 from rfl, z_bm (by omega) (by omega)]
    omega
  refine zh_ald zJ_237 (a := 0) (b := 0) (z := 0) rfl (k' := 24) rfl g0 ?_
  refine zh_get zJ_237 (b := 1) (c := 9) (z := 0) rfl (k' := 25) rfl he hw1 ?_
  refine zh zJ_237 (i := (0, 0, 0, 437)) rfl rfl (k' := 26) (lo' := lo) (st' := [.int (Int32.ofInt (437)), .ref w']) (h' := h) rfl ?_
  refine zh zJ_237 (i := (0, 0, 0, 2)) rfl rfl (k' := 27) (lo' := lo) (st' := [.int (Int32.ofInt (2)), .int (Int32.ofInt (437)), .ref w']) (h' := h) rfl ?_
  refine zh_ild zJ_237 (a := 6) (b := 0) (z := 0) rfl (k' := 28) rfl g6 ?_
  refine zh zJ_237 (i := (10, 0, 0, 0)) rfl rfl (k' := 29) (lo' := lo) (st' := [.int (Int32.ofInt (2) * x6), .int (Int32.ofInt (437)), .ref w']) (h' := h) rfl ?_
  refine zh zJ_237 (i := (8, 0, 0, 0)) rfl rfl (k' := 30) (lo' := lo) (st' := [.int (Int32.ofInt (437) + Int32.ofInt (2) * x6), .ref w']) (h' := h) rfl ?_
  refine zh_iald zJ_237 (z := 0) rfl (k' := 31) rfl hf (by omega) (by omega) ?_
  rw [znat ex2, hfw (437 + 2 * i) (by omega)]
  generalize hs : fw (437 + 2 * i) = s at hp2 ⊢
  refine zh_ist zJ_237 (a := 7) (b := 0) (z := 0) rfl (k' := 32) rfl ?_
  have k0 := zget_set1_ne (a := 7) (v := .int s) g0 (by decide) rfl
  have k1 := zget_set1_ne (a := 7) (v := .int s) g1 (by decide) rfl
  have k2 := zget_set1_ne (a := 7) (v := .int s) g2 (by decide) rfl
  have k3 := zget_set1_ne (a := 7) (v := .int s) g3 (by decide) rfl
  have k4 := zget_set1_ne (a := 7) (v := .int s) g4 (by decide) rfl
  have k5 := zget_set1_ne (a := 7) (v := .int s) g5 (by decide) rfl
  have k6 := zget_set1_ne (a := 7) (v := .int s) g6 (by decide) rfl
  have post : ∀ (δ : Int) (top' : Nat), (top' : Int) = (top : Int) + δ → top' ≤ 400 → zPx fw n' (i + 1) top' → ∀ g ∈ [zH145 δ], ∀ (ty' : List Nat) (lo' : zL) (h' : zH) (vl' vm' : List Value), zExt ty0 ty' → zTY z_tt ty' h' → zE1 ty' h' → zFm (zcM zC_H) ty0 h0 h' → zVl ty' lo' g.2.1 vl' → zVm ty' lo' h' g.2.2.1 vm' → (∀ q ∈ g.2.2.2, zcv2 lo' h' q.1 = zcv2 (z_set1 lo 7 (.int s)) h q.2.1 + q.2.2) → zGo sx d0 (zPo z_tt zE1 zC_H ty0 h0) [(zcJ zC_H, g.1, lo', [])] h' 0 0 := by
    intro δ top' et bt hpt g hg ty' lo' h' vl' vm' X' T' E' F' H1' _ hq
    have eg := List.mem_singleton.mp hg
    subst eg
    match vl', H1' with
    | [u0, u1, u2, u3, u4, u5, u6], H1' =>
    obtain ⟨m0, ⟨a9, t9, rfl, ha9, t91, t92⟩, m1, ⟨y1, rfl, p1, q1⟩, m2, ⟨y2, rfl, p2, q2⟩, m3, ⟨y3, rfl, -, -⟩, m4, ⟨y4, rfl, p4, q4⟩, m5, ⟨y5, rfl, p5, q5⟩, m6, ⟨y6, rfl, p6, q6⟩, -⟩ := H1'
    dsimp only at m0 m1 m2 m3 m4 m5 m6
    have et9 : t9 = 20 := by omega
    subst et9
    have d4 := hq ((1, 4, 0, 0), (1, 4, 0, 0), δ) (List.Mem.head _)
    have d5 := hq ((1, 5, 0, 0), (1, 5, 0, 0), 0) (List.Mem.tail _ (List.Mem.head _))
    have d6 := hq ((1, 6, 0, 0), (1, 6, 0, 0), 0) (List.Mem.tail _ (List.Mem.tail _ (List.Mem.head _)))
    dsimp only at d4 d5 d6
    rw [zcvl m4, zcvl k4] at d4
    rw [zcvl m5, zcvl k5] at d5
    rw [zcvl m6, zcvl k6] at d6
    show z_ok sx (d0 - 0) 237 145 lo' [] h' (fun o h' a b => zKx sx d0 (zPo z_tt zE1 zC_H ty0 h0) [] o h' (a + 0) (b + 0))
    refine zh_iinc zJ_237 (a := 6) (b := 0) (z := 1) rfl (k' := 146) rfl m6 ?_
    refine zh zJ_237 (i := (30, 15, 0, 0)) rfl rfl (k' := 15) (lo' := z_set1 lo' 6 (.int (y6 + Int32.ofInt 1))) (st' := []) (h' := h') rfl ?_
    exact ih n' (by omega) ty' _ h' a9 (i + 1) top' y1 y2 y3 y4 y5 _ X' T' E' F' (zget_set1_ne m0 (by decide) rfl) ha9 (zget_set1_ne m1 (by decide) rfl) ⟨p1, q1⟩ (zget_set1_ne m2 (by decide) rfl) ⟨p2, q2⟩ (zget_set1_ne m3 (by decide) rfl) (zget_set1_ne m4 (by decide) rfl) (by omega) bt (zget_set1_ne m5 (by decide) rfl) (by omega) zget_self (zinc (by omega) (by omega)) (by omega) hpt
  have hv : ∀ p q r u : Int, p ≤ s.toInt → s.toInt ≤ q → r ≤ (top : Int) → (top : Int) ≤ u → zVl ty (z_set1 lo 7 (.int s)) (zH32 p q r u).2.1 [.ref a, .int xl, .int xf, .int xh, .int x4, .int x5, .int x6, .int s] := fun p q r u h1 h2 h3 h4 => ⟨k0, ⟨_, 20, rfl, ha, Int.le_refl _, Int.le_refl _⟩, k1, ⟨xl, rfl, b1.1, b1.2⟩, k2, ⟨xf, rfl, b2.1, b2.2⟩, k3, zFull_ok _, k4, ⟨x4, rfl, by omega, by omega⟩, k5, ⟨x5, rfl, by omega, by omega⟩, k6, ⟨x6, rfl, by omega, by omega⟩, zget_self, ⟨s, rfl, h1, h2⟩, trivial⟩
  have sb := zb32 s
  by_cases c1 : s.toInt ≤ 8
  · rw [if_pos c1] at hp2
    exact zseg2 (ct := zC_H) (c0 := zH32 (-2147483648) 8 0 399) (gs := [zH145 1]) (vm := []) hstb hd H zK_H1 X T E F (hv _ _ _ _ sb.1 c1 (by omega) (by omega)) trivial (post 1 (top + 1) (by omega) (by omega) hp2.2)
  · rw [if_neg c1] at hp2
    by_cases c2 : s.toInt = 12
    · rw [if_pos c2] at hp2
      exact zseg2 (ct := zC_H) (c0 := zH32 12 12 1 400) (gs := [zH145 0]) (vm := []) hstb hd H zK_H2 X T E F (hv _ _ _ _ (by omega) (by omega) (by omega) (by omega)) trivial (post 0 top (by omega) b4 hp2.2)
    · rw [if_neg c2] at hp2
      by_cases c3 : s.toInt ≤ 11
      · exact zseg2 (ct := zC_H) (c0 := zH32 9 11 2 400) (gs := [zH145 (-1)]) (vm := []) hstb hd H zK_H3 X T E F (hv _ _ _ _ (by omega) (by omega) (by omega) (by omega)) trivial (post (-1) (top - 1) (by omega) (by omega) hp2.2)
      · exact zseg2 (ct := zC_H) (c0 := zH32 13 2147483647 2 400) (gs := [zH145 (-1)]) (vm := []) hstb hd H zK_H4 X T E F (hv _ _ _ _ (by omega) (by omega) (by omega) (by omega)) trivial (post (-1) (top - 1) (by omega) (by omega) hp2.2)
end
section
/-! holdsLine and sumOf of the reference; printed with wip/gen/gen_sum.py -/
set_option maxRecDepth 100000 in
theorem zR_237 {sx : zX} {d a w : Nat} {ty : List Nat} {h : zH} {fw : Nat → Int32} {xl xf xh : Int32} (hd : 20 ≤ d) (H : ∀ c, c < 239 → ∀ c', zCtl[c]? = some c' → zVd z_tt zE1 c') (T : zTY z_tt ty h) (E : zE1 ty h) (ha : ty[a]? = some 20) (hw2 : ty[w]? = some 21) (hf : h[w]? = some (.inl (0, (2086, .inl fw)))) (l1 : 0 ≤ xl.toInt) (l2 : xl.toInt < (fw 388).toInt) (f1 : -1 ≤ xf.toInt) (f2 : xf.toInt ≤ 9) : z_ok sx d 237 0 [(0, .ref a), (1, .int xl), (2, .int xf), (3, .int xh)] [] h (zPo z_tt zE1 zC_H ty h) := by
  obtain ⟨hL1, hL⟩ := E.2 w 21 2086 fw hw2 (Or.inl rfl) hf
  obtain ⟨hL2, hL3⟩ := hL xl.toInt.toNat (by omega)
  obtain ⟨fs, he, hl⟩ := zcell0 (c := 9) (n := 23) T ha rfl rfl rfl
  obtain ⟨w', hw1, hw3⟩ := zfd2 (b := 1) (u := 21) T ha he (by omega) (by decide +kernel)
  have ew : w' = w := E.1 w' w 21 (by omega) (by omega) hw3 hw2
  subst ew
  refine zh zJ_237 (i := (0, 0, 0, 0)) rfl rfl (k' := 1) (lo' := [(0, .ref a), (1, .int xl), (2, .int xf), (3, .int xh)]) (st' := [.int (Int32.ofInt (0))]) (h' := h) rfl ?_
  refine zh zJ_237 (i := (4, 4, 0, 0)) rfl rfl (k' := 2) (lo' := [(4, .int (Int32.ofInt (0))), (0, .ref a), (1, .int xl), (2, .int xf), (3, .int xh)]) (st' := []) (h' := h) rfl ?_
  refine zh zJ_237 (i := (0, 0, 0, 389)) rfl rfl (k' := 3) (lo' := [(4, .int (Int32.ofInt (0))), (0, .ref a), (1, .int xl), (2, .int xf), (3, .int xh)]) (st' := [.int (Int32.ofInt (389))]) (h' := h) rfl ?_
  refine zh zJ_237 (i := (0, 0, 0, 4)) rfl rfl (k' := 4) (lo' := [(4, .int (Int32.ofInt (0))), (0, .ref a), (1, .int xl), (2, .int xf), (3, .int xh)]) (st' := [.int (Int32.ofInt (4)), .int (Int32.ofInt (389))]) (h' := h) rfl ?_
  refine zh zJ_237 (i := (1, 1, 0, 0)) rfl rfl (k' := 5) (lo' := [(4, .int (Int32.ofInt (0))), (0, .ref a), (1, .int xl), (2, .int xf), (3, .int xh)]) (st' := [.int xl, .int (Int32.ofInt (4)), .int (Int32.ofInt (389))]) (h' := h) rfl ?_
  refine zh zJ_237 (i := (10, 0, 0, 0)) rfl rfl (k' := 6) (lo' := [(4, .int (Int32.ofInt (0))), (0, .ref a), (1, .int xl), (2, .int xf), (3, .int xh)]) (st' := [.int ((Int32.ofInt (4)) * xl), .int (Int32.ofInt (389))]) (h' := h) rfl ?_
  refine zh zJ_237 (i := (8, 0, 0, 0)) rfl rfl (k' := 7) (lo' := [(4, .int (Int32.ofInt (0))), (0, .ref a), (1, .int xl), (2, .int xf), (3, .int xh)]) (st' := [.int ((Int32.ofInt (389)) + ((Int32.ofInt (4)) * xl))]) (h' := h) rfl ?_
  refine zh zJ_237 (i := (4, 5, 0, 0)) rfl rfl (k' := 8) (lo' := [(5, .int ((Int32.ofInt (389)) + ((Int32.ofInt (4)) * xl))), (4, .int (Int32.ofInt (0))), (0, .ref a), (1, .int xl), (2, .int xf), (3, .int xh)]) (st' := []) (h' := h) rfl ?_
  refine zh zJ_237 (i := (2, 0, 0, 0)) rfl rfl (k' := 9) (lo' := [(5, .int ((Int32.ofInt (389)) + ((Int32.ofInt (4)) * xl))), (4, .int (Int32.ofInt (0))), (0, .ref a), (1, .int xl), (2, .int xf), (3, .int xh)]) (st' := [.ref a]) (h' := h) rfl ?_
  have e4 : (Int32.ofInt (4) * xl).toInt = 4 * xl.toInt := by
    rw [Int32.toInt_mul, show (Int32.ofInt (4)).toInt = 4 from rfl]
    exact z_bm (by omega) (by omega)
  have e5 : (Int32.ofInt (389) + Int32.ofInt (4) * xl).toInt = ((389 + 4 * xl.toInt.toNat : Nat) : Int) := by
    rw [Int32.toInt_add, e4, show (Int32.ofInt (389)).toInt = 389 from rfl, z_bm (by omega) (by omega)]
    omega
  have e6 : (Int32.ofInt (389) + Int32.ofInt (4) * xl + Int32.ofInt (2)).toInt = ((391 + 4 * xl.toInt.toNat : Nat) : Int) := by
    rw [Int32.toInt_add, e5, show (Int32.ofInt (2)).toInt = 2 from rfl, z_bm (by omega) (by omega)]
    omega
  refine zh_get zJ_237 (a := a) (b := 1) (c := 9) (z := 0) rfl (k' := 10) rfl he hw1 ?_
  refine zh zJ_237 (i := (1, 5, 0, 0)) rfl rfl (k' := 11) (lo' := [(5, .int ((Int32.ofInt (389)) + ((Int32.ofInt (4)) * xl))), (4, .int (Int32.ofInt (0))), (0, .ref a), (1, .int xl), (2, .int xf), (3, .int xh)]) (st' := [.int ((Int32.ofInt (389)) + ((Int32.ofInt (4)) * xl)), .ref w']) (h' := h) rfl ?_
  refine zh zJ_237 (i := (0, 0, 0, 2)) rfl rfl (k' := 12) (lo' := [(5, .int ((Int32.ofInt (389)) + ((Int32.ofInt (4)) * xl))), (4, .int (Int32.ofInt (0))), (0, .ref a), (1, .int xl), (2, .int xf), (3, .int xh)]) (st' := [.int (Int32.ofInt (2)), .int ((Int32.ofInt (389)) + ((Int32.ofInt (4)) * xl)), .ref w']) (h' := h) rfl ?_
  refine zh zJ_237 (i := (8, 0, 0, 0)) rfl rfl (k' := 13) (lo' := [(5, .int ((Int32.ofInt (389)) + ((Int32.ofInt (4)) * xl))), (4, .int (Int32.ofInt (0))), (0, .ref a), (1, .int xl), (2, .int xf), (3, .int xh)]) (st' := [.int (((Int32.ofInt (389)) + ((Int32.ofInt (4)) * xl)) + (Int32.ofInt (2))), .ref w']) (h' := h) rfl ?_
  refine zh_iald zJ_237 (z := 0) rfl (k' := 14) rfl hf (by omega) (by omega) ?_
  rw [znat e6]
  refine zh zJ_237 (i := (4, 6, 0, 0)) rfl rfl (k' := 15) (lo' := [(6, .int (fw (391 + 4 * xl.toInt.toNat))), (5, .int ((Int32.ofInt (389)) + ((Int32.ofInt (4)) * xl))), (4, .int (Int32.ofInt (0))), (0, .ref a), (1, .int xl), (2, .int xf), (3, .int xh)]) (st' := []) (h' := h) rfl ?_
  have hgo := zLp_H (sx := sx) (d0 := d) (ty0 := ty) (h0 := h) (w := w') (l := xl.toInt.toNat) (fw := fw) hd H hw3 hf (by omega) _ ty [(6, .int (fw (391 + 4 * xl.toInt.toNat))), (5, .int ((Int32.ofInt (389)) + ((Int32.ofInt (4)) * xl))), (4, .int (Int32.ofInt (0))), (0, .ref a), (1, .int xl), (2, .int xf), (3, .int xh)] h a (fw (391 + 4 * xl.toInt.toNat)).toInt.toNat 0 xl xf xh _ _ _ zExt.rf T E zFm.rf rfl ha rfl ⟨l1, by omega⟩ rfl ⟨f1, f2⟩ rfl rfl rfl (by omega) rfl e5 rfl (by omega) rfl (by
    have e9 : (((fw (391 + 4 * xl.toInt.toNat)).toInt.toNat : Nat) : Int) = (fw (391 + 4 * xl.toInt.toNat)).toInt := by omega
    rw [e9]
    exact hL3)
  refine z_ok.imp hgo (fun o h' x y q => ?_)
  have q : zPo z_tt zE1 zC_H ty h o h' (x + 0) (y + 0) := q
  exact q
end
section
/-! sumOf of the reference; printed with wip/gen/gen_sum3.py -/
theorem zJ_238 : zJ3 238 z_m238 z_c238 z_h238 := ⟨rfl, rfl, rfl⟩
set_option maxRecDepth 100000 in
theorem zLp_238 {sx : zX} {d a : Nat} {ty0 : List Nat} {h0 : zH} {k xf xh : Int32} (hd : 21 ≤ d) (H : ∀ c, c < 239 → ∀ c', zCtl[c]? = some c' → zVd z_tt zE1 c') (ha0 : ty0[a]? = some 20) (f1 : -1 ≤ xf.toInt) (f2 : xf.toInt ≤ 9) : ∀ (r : Nat) (ty : List Nat) (h : zH) (i : Nat) (n sm : Int32), zExt ty0 ty → zTY z_tt ty h → zE1 ty h → zFm (zcM zC239) ty0 h0 h → n.toInt = (i : Int) → i + r = 13 → z_ok sx d 238 4 [(5, .int n), (4, .int sm), (0, .ref a), (1, .int k), (2, .int xf), (3, .int xh)] [] h (zPo z_tt zE1 zC239 ty0 h0)
  | r, ty, h, i, n, sm, X, T, E, F, hi, hr => by
    have ih : ∀ (ty : List Nat) (h : zH) (i' : Nat) (n sm : Int32), zExt ty0 ty → zTY z_tt ty h → zE1 ty h → zFm (zcM zC239) ty0 h0 h → n.toInt = (i' : Int) → i' + (r - 1) = 13 → 0 < r → z_ok sx d 238 4 [(5, .int n), (4, .int sm), (0, .ref a), (1, .int k), (2, .int xf), (3, .int xh)] [] h (zPo z_tt zE1 zC239 ty0 h0) := fun ty h i' n sm a1 a2 a3 a4 a5 a6 a7 => by
      cases r with
      | zero => omega
      | succ r => exact zLp_238 hd H ha0 f1 f2 r ty h i' n sm a1 a2 a3 a4 a5 a6
    have hret : ∀ v : Int32, zPo z_tt zE1 zC239 ty0 h0 (.inl (some (.int v))) h 0 0 := fun v => ⟨ty, X, T, E, F, zFull_ok (ty := ty) v, Nat.le_refl _, Nat.le_refl _⟩
    obtain ⟨fs, he, hl⟩ := zcell0 (c := 9) (n := 23) T (X a 20 ha0) rfl rfl rfl
    obtain ⟨w, hw1, hw2⟩ := zfd2 (b := 1) (u := 21) T (X a 20 ha0) he (by omega) (by decide +kernel)
    obtain ⟨f, hf⟩ := zcell1 (n := 2086) T hw2 rfl rfl
    refine zh zJ_238 (i := (2, 0, 0, 0)) rfl rfl (k' := 5) (lo' := [(5, .int n), (4, .int sm), (0, .ref a), (1, .int k), (2, .int xf), (3, .int xh)]) (st' := [.ref a]) (h' := h) rfl ?_
    refine zh_get zJ_238 (a := a) (b := 1) (c := 9) (z := 0) rfl (k' := 6) rfl he hw1 ?_
    refine zh zJ_238 (i := (0, 0, 0, 3)) rfl rfl (k' := 7) (lo' := [(5, .int n), (4, .int sm), (0, .ref a), (1, .int k), (2, .int xf), (3, .int xh)]) (st' := [.int (Int32.ofInt (3)), .ref w]) (h' := h) rfl ?_
    refine zh_iald zJ_238 (z := 0) rfl (k' := 8) rfl hf (by decide) (by decide) ?_
    refine zh zJ_238 (i := (0, 0, 0, 1)) rfl rfl (k' := 9) (lo' := [(5, .int n), (4, .int sm), (0, .ref a), (1, .int k), (2, .int xf), (3, .int xh)]) (st' := [.int (Int32.ofInt (1)), .int (f (Int32.ofInt (3)).toNatClampNeg)]) (h' := h) rfl ?_
    refine zh_icmp zJ_238 (a := 47) (b := 1) (z := 0) rfl (fun hc => ?_) (fun hc => ?_)
    · refine zh zJ_238 (i := (1, 4, 0, 0)) rfl rfl (k' := 48) (lo' := [(5, .int n), (4, .int sm), (0, .ref a), (1, .int k), (2, .int xf), (3, .int xh)]) (st' := [.int sm]) (h' := h) rfl ?_
      refine zh_iret zJ_238 (a := 0) (b := 0) (z := 0) rfl (Or.inl rfl) ?_
      exact hret _
    · refine zh zJ_238 (i := (1, 5, 0, 0)) rfl rfl (k' := 11) (lo' := [(5, .int n), (4, .int sm), (0, .ref a), (1, .int k), (2, .int xf), (3, .int xh)]) (st' := [.int n]) (h' := h) rfl ?_
      refine zh zJ_238 (i := (2, 0, 0, 0)) rfl rfl (k' := 12) (lo' := [(5, .int n), (4, .int sm), (0, .ref a), (1, .int k), (2, .int xf), (3, .int xh)]) (st' := [.ref a, .int n]) (h' := h) rfl ?_
      refine zh_get zJ_238 (a := a) (b := 1) (c := 9) (z := 0) rfl (k' := 13) rfl he hw1 ?_
      refine zh zJ_238 (i := (0, 0, 0, 388)) rfl rfl (k' := 14) (lo' := [(5, .int n), (4, .int sm), (0, .ref a), (1, .int k), (2, .int xf), (3, .int xh)]) (st' := [.int (Int32.ofInt (388)), .ref w, .int n]) (h' := h) rfl ?_
      refine zh_iald zJ_238 (z := 0) rfl (k' := 15) rfl hf (by decide) (by decide) ?_
      rw [show (Int32.ofInt (388)).toNatClampNeg = 388 from rfl]
      refine zh_icmp zJ_238 (a := 47) (b := 3) (z := 0) rfl (fun hc => ?_) (fun hc => ?_)
      · refine zh zJ_238 (i := (1, 4, 0, 0)) rfl rfl (k' := 48) (lo' := [(5, .int n), (4, .int sm), (0, .ref a), (1, .int k), (2, .int xf), (3, .int xh)]) (st' := [.int sm]) (h' := h) rfl ?_
        refine zh_iret zJ_238 (a := 0) (b := 0) (z := 0) rfl (Or.inl rfl) ?_
        exact hret _
      · have hn : n.toInt < (f 388).toInt := by
          have : ¬ (f 388).toInt ≤ n.toInt := fun e => hc (zcmp_ge.mpr e)
          omega
        have hcnt := (E.2 w 21 2086 f hw2 (Or.inl rfl) hf).1
        have e4 : (Int32.ofInt (4) * n).toInt = 4 * n.toInt := by
          rw [Int32.toInt_mul, show (Int32.ofInt (4)).toInt = 4 from rfl]
          exact z_bm (by omega) (by omega)
        have e5 : (Int32.ofInt (389) + Int32.ofInt (4) * n).toInt = 389 + 4 * n.toInt := by
          rw [Int32.toInt_add, e4, show (Int32.ofInt (389)).toInt = 389 from rfl, z_bm (by omega) (by omega)]
        have e6 : (Int32.ofInt (389) + Int32.ofInt (4) * n + Int32.ofInt (1)).toInt = 390 + 4 * n.toInt := by
          rw [Int32.toInt_add, e5, show (Int32.ofInt (1)).toInt = 1 from rfl, z_bm (by omega) (by omega)]
          omega
        have skip : ∀ (ty9 : List Nat) (h9 : zH) (sm9 : Int32), zExt ty0 ty9 → zTY z_tt ty9 h9 → zE1 ty9 h9 → zFm (zcM zC239) ty0 h0 h9 → z_ok sx d 238 45 [(5, .int n), (4, .int sm9), (0, .ref a), (1, .int k), (2, .int xf), (3, .int xh)] [] h9 (zPo z_tt zE1 zC239 ty0 h0) := by
          intro ty9 h9 sm9 X9 T9 E9 F9
          refine zh zJ_238 (i := (7, 5, 0, 1)) rfl rfl (k' := 46) (lo' := [(5, .int (n + Int32.ofInt 1)), (4, .int sm9), (0, .ref a), (1, .int k), (2, .int xf), (3, .int xh)]) (st' := []) (h' := h9) rfl ?_
          refine zh zJ_238 (i := (30, 4, 0, 0)) rfl rfl (k' := 4) (lo' := [(5, .int (n + Int32.ofInt 1)), (4, .int sm9), (0, .ref a), (1, .int k), (2, .int xf), (3, .int xh)]) (st' := []) (h' := h9) rfl ?_
          exact ih ty9 h9 (i + 1) _ sm9 X9 T9 E9 F9 (zinc hi (by omega)) (by omega) (by omega)
        refine zh zJ_238 (i := (2, 0, 0, 0)) rfl rfl (k' := 17) (lo' := [(5, .int n), (4, .int sm), (0, .ref a), (1, .int k), (2, .int xf), (3, .int xh)]) (st' := [.ref a]) (h' := h) rfl ?_
        refine zh_get zJ_238 (a := a) (b := 1) (c := 9) (z := 0) rfl (k' := 18) rfl he hw1 ?_
        refine zh zJ_238 (i := (0, 0, 0, 389)) rfl rfl (k' := 19) (lo' := [(5, .int n), (4, .int sm), (0, .ref a), (1, .int k), (2, .int xf), (3, .int xh)]) (st' := [.int (Int32.ofInt (389)), .ref w]) (h' := h) rfl ?_
        refine zh zJ_238 (i := (0, 0, 0, 4)) rfl rfl (k' := 20) (lo' := [(5, .int n), (4, .int sm), (0, .ref a), (1, .int k), (2, .int xf), (3, .int xh)]) (st' := [.int (Int32.ofInt (4)), .int (Int32.ofInt (389)), .ref w]) (h' := h) rfl ?_
        refine zh zJ_238 (i := (1, 5, 0, 0)) rfl rfl (k' := 21) (lo' := [(5, .int n), (4, .int sm), (0, .ref a), (1, .int k), (2, .int xf), (3, .int xh)]) (st' := [.int n, .int (Int32.ofInt (4)), .int (Int32.ofInt (389)), .ref w]) (h' := h) rfl ?_
        refine zh zJ_238 (i := (10, 0, 0, 0)) rfl rfl (k' := 22) (lo' := [(5, .int n), (4, .int sm), (0, .ref a), (1, .int k), (2, .int xf), (3, .int xh)]) (st' := [.int ((Int32.ofInt (4)) * n), .int (Int32.ofInt (389)), .ref w]) (h' := h) rfl ?_
        refine zh zJ_238 (i := (8, 0, 0, 0)) rfl rfl (k' := 23) (lo' := [(5, .int n), (4, .int sm), (0, .ref a), (1, .int k), (2, .int xf), (3, .int xh)]) (st' := [.int ((Int32.ofInt (389)) + ((Int32.ofInt (4)) * n)), .ref w]) (h' := h) rfl ?_
        refine zh_iald zJ_238 (z := 0) rfl (k' := 24) rfl hf (by omega) (by omega) ?_
        refine zh zJ_238 (i := (1, 1, 0, 0)) rfl rfl (k' := 25) (lo' := [(5, .int n), (4, .int sm), (0, .ref a), (1, .int k), (2, .int xf), (3, .int xh)]) (st' := [.int k, .int (f ((Int32.ofInt (389)) + ((Int32.ofInt (4)) * n)).toNatClampNeg)]) (h' := h) rfl ?_
        refine zh_icmp zJ_238 (a := 45) (b := 1) (z := 0) rfl (fun hc => ?_) (fun hc => ?_)
        · exact skip ty h sm X T E F
        · refine zh zJ_238 (i := (2, 0, 0, 0)) rfl rfl (k' := 27) (lo' := [(5, .int n), (4, .int sm), (0, .ref a), (1, .int k), (2, .int xf), (3, .int xh)]) (st' := [.ref a]) (h' := h) rfl ?_
          refine zh zJ_238 (i := (1, 5, 0, 0)) rfl rfl (k' := 28) (lo' := [(5, .int n), (4, .int sm), (0, .ref a), (1, .int k), (2, .int xf), (3, .int xh)]) (st' := [.int n, .ref a]) (h' := h) rfl ?_
          refine zh zJ_238 (i := (1, 2, 0, 0)) rfl rfl (k' := 29) (lo' := [(5, .int n), (4, .int sm), (0, .ref a), (1, .int k), (2, .int xf), (3, .int xh)]) (st' := [.int xf, .int n, .ref a]) (h' := h) rfl ?_
          refine zh zJ_238 (i := (1, 3, 0, 0)) rfl rfl (k' := 30) (lo' := [(5, .int n), (4, .int sm), (0, .ref a), (1, .int k), (2, .int xf), (3, .int xh)]) (st' := [.int xh, .int xf, .int n, .ref a]) (h' := h) rfl ?_
          refine zh_run zJ_238 (i := (54, 237, 3, 9)) (rest := []) (as := [.ref a, .int n, .int xf, .int xh]) rfl (by decide) (zcal54 (xs := [.int xh, .int xf, .int n]) (by omega) rfl rfl he rfl (Nat.le_of_ble_eq_true rfl) (M' := z_m237) rfl (Nat.le_of_ble_eq_true rfl)) (zR_237 (by omega) H T E (X a 20 ha0) hw2 hf (by omega) hn f1 f2) (fun o h' x9 y9 q => ?_)
          obtain ⟨ty', q1, q2, q3, q4, q5⟩ := q
          cases o with
          | inr e => exact absurd q5.1 List.not_mem_nil
          | inl v =>
          obtain ⟨q5, q6, q7⟩ := q5
          obtain ⟨v9, rfl, c, rfl, c1, c2⟩ := zRt1 q5
          have q6 : x9 ≤ 0 := q6
          have q7 : y9 ≤ 0 := q7
          refine ⟨_, rfl, by omega, by omega, ?_⟩
          have F' : zFm (zcM zC239) ty0 h0 h' := F.tr X q4
          have X' := X.tr q1
          obtain ⟨fs2, he2, hl2⟩ := zcell0 (c := 9) (n := 23) q2 (X' a 20 ha0) rfl rfl rfl
          obtain ⟨w2, hw12, hw22⟩ := zfd2 (b := 1) (u := 21) q2 (X' a 20 ha0) he2 (by omega) (by decide +kernel)
          obtain ⟨f9, hf9⟩ := zcell1 (n := 2086) q2 hw22 rfl rfl
          show z_ok sx d 238 31 [(5, .int n), (4, .int sm), (0, .ref a), (1, .int k), (2, .int xf), (3, .int xh)] [.int c] h' _
          refine zh_if zJ_238 (a := 45) (b := 0) (z := 0) rfl (fun hc => ?_) (fun hc => ?_)
          · exact skip ty' h' sm X' q2 q3 F'
          · refine zh zJ_238 (i := (1, 4, 0, 0)) rfl rfl (k' := 33) (lo' := [(5, .int n), (4, .int sm), (0, .ref a), (1, .int k), (2, .int xf), (3, .int xh)]) (st' := [.int sm]) (h' := h') rfl ?_
            refine zh zJ_238 (i := (2, 0, 0, 0)) rfl rfl (k' := 34) (lo' := [(5, .int n), (4, .int sm), (0, .ref a), (1, .int k), (2, .int xf), (3, .int xh)]) (st' := [.ref a, .int sm]) (h' := h') rfl ?_
            refine zh_get zJ_238 (a := a) (b := 1) (c := 9) (z := 0) rfl (k' := 35) rfl he2 hw12 ?_
            refine zh zJ_238 (i := (0, 0, 0, 389)) rfl rfl (k' := 36) (lo' := [(5, .int n), (4, .int sm), (0, .ref a), (1, .int k), (2, .int xf), (3, .int xh)]) (st' := [.int (Int32.ofInt (389)), .ref w2, .int sm]) (h' := h') rfl ?_
            refine zh zJ_238 (i := (0, 0, 0, 4)) rfl rfl (k' := 37) (lo' := [(5, .int n), (4, .int sm), (0, .ref a), (1, .int k), (2, .int xf), (3, .int xh)]) (st' := [.int (Int32.ofInt (4)), .int (Int32.ofInt (389)), .ref w2, .int sm]) (h' := h') rfl ?_
            refine zh zJ_238 (i := (1, 5, 0, 0)) rfl rfl (k' := 38) (lo' := [(5, .int n), (4, .int sm), (0, .ref a), (1, .int k), (2, .int xf), (3, .int xh)]) (st' := [.int n, .int (Int32.ofInt (4)), .int (Int32.ofInt (389)), .ref w2, .int sm]) (h' := h') rfl ?_
            refine zh zJ_238 (i := (10, 0, 0, 0)) rfl rfl (k' := 39) (lo' := [(5, .int n), (4, .int sm), (0, .ref a), (1, .int k), (2, .int xf), (3, .int xh)]) (st' := [.int ((Int32.ofInt (4)) * n), .int (Int32.ofInt (389)), .ref w2, .int sm]) (h' := h') rfl ?_
            refine zh zJ_238 (i := (8, 0, 0, 0)) rfl rfl (k' := 40) (lo' := [(5, .int n), (4, .int sm), (0, .ref a), (1, .int k), (2, .int xf), (3, .int xh)]) (st' := [.int ((Int32.ofInt (389)) + ((Int32.ofInt (4)) * n)), .ref w2, .int sm]) (h' := h') rfl ?_
            refine zh zJ_238 (i := (0, 0, 0, 1)) rfl rfl (k' := 41) (lo' := [(5, .int n), (4, .int sm), (0, .ref a), (1, .int k), (2, .int xf), (3, .int xh)]) (st' := [.int (Int32.ofInt (1)), .int ((Int32.ofInt (389)) + ((Int32.ofInt (4)) * n)), .ref w2, .int sm]) (h' := h') rfl ?_
            refine zh zJ_238 (i := (8, 0, 0, 0)) rfl rfl (k' := 42) (lo' := [(5, .int n), (4, .int sm), (0, .ref a), (1, .int k), (2, .int xf), (3, .int xh)]) (st' := [.int (((Int32.ofInt (389)) + ((Int32.ofInt (4)) * n)) + (Int32.ofInt (1))), .ref w2, .int sm]) (h' := h') rfl ?_
            refine zh_iald zJ_238 (z := 0) rfl (k' := 43) rfl hf9 (by omega) (by omega) ?_
            refine zh zJ_238 (i := (8, 0, 0, 0)) rfl rfl (k' := 44) (lo' := [(5, .int n), (4, .int sm), (0, .ref a), (1, .int k), (2, .int xf), (3, .int xh)]) (st' := [.int (sm + (f9 (((Int32.ofInt (389)) + ((Int32.ofInt (4)) * n)) + (Int32.ofInt (1))).toNatClampNeg))]) (h' := h') rfl ?_
            refine zh zJ_238 (i := (4, 4, 0, 0)) rfl rfl (k' := 45) (lo' := [(4, .int (sm + (f9 (((Int32.ofInt (389)) + ((Int32.ofInt (4)) * n)) + (Int32.ofInt (1))).toNatClampNeg))), (5, .int n), (0, .ref a), (1, .int k), (2, .int xf), (3, .int xh)]) (st' := []) (h' := h') rfl ?_
            refine zh zJ_238 (i := (7, 5, 0, 1)) rfl rfl (k' := 46) (lo' := [(5, .int (n + Int32.ofInt 1)), (4, .int (sm + (f9 (((Int32.ofInt (389)) + ((Int32.ofInt (4)) * n)) + (Int32.ofInt (1))).toNatClampNeg))), (0, .ref a), (1, .int k), (2, .int xf), (3, .int xh)]) (st' := []) (h' := h') rfl ?_
            refine zh zJ_238 (i := (30, 4, 0, 0)) rfl rfl (k' := 4) (lo' := [(5, .int (n + Int32.ofInt 1)), (4, .int (sm + (f9 (((Int32.ofInt (389)) + ((Int32.ofInt (4)) * n)) + (Int32.ofInt (1))).toNatClampNeg))), (0, .ref a), (1, .int k), (2, .int xf), (3, .int xh)]) (st' := []) (h' := h') rfl ?_
            exact ih ty' h' (i + 1) _ _ X' q2 q3 F' (zinc hi (by omega)) (by omega) (by omega)
set_option maxRecDepth 100000 in
theorem zV_239 (H : ∀ c, c < 239 → ∀ c', zCtl[c]? = some c' → zVd z_tt zE1 c') : zVd z_tt zE1 zC239 := by
  intro sx d ty h as hd T E hA
  have hd : 22 ≤ d := hd
  match as, hA with
  | [v0, v1, v2, v3], hA =>
  obtain ⟨⟨a, t, rfl, ha, t1, t2⟩, ⟨k, rfl, -, -⟩, ⟨xf, rfl, f1, f2⟩, ⟨xh, rfl, -, -⟩, -⟩ := hA
  have et : t = 20 := by omega
  subst et
  show z_ok sx d 238 0 [(0, .ref a), (1, .int k), (2, .int xf), (3, .int xh)] [] h _
  refine zh zJ_238 (i := (0, 0, 0, 0)) rfl rfl (k' := 1) (lo' := [(0, .ref a), (1, .int k), (2, .int xf), (3, .int xh)]) (st' := [.int (Int32.ofInt (0))]) (h' := h) rfl ?_
  refine zh zJ_238 (i := (4, 4, 0, 0)) rfl rfl (k' := 2) (lo' := [(4, .int (Int32.ofInt (0))), (0, .ref a), (1, .int k), (2, .int xf), (3, .int xh)]) (st' := []) (h' := h) rfl ?_
  refine zh zJ_238 (i := (0, 0, 0, 0)) rfl rfl (k' := 3) (lo' := [(4, .int (Int32.ofInt (0))), (0, .ref a), (1, .int k), (2, .int xf), (3, .int xh)]) (st' := [.int (Int32.ofInt (0))]) (h' := h) rfl ?_
  refine zh zJ_238 (i := (4, 5, 0, 0)) rfl rfl (k' := 4) (lo' := [(5, .int (Int32.ofInt (0))), (4, .int (Int32.ofInt (0))), (0, .ref a), (1, .int k), (2, .int xf), (3, .int xh)]) (st' := []) (h' := h) rfl ?_
  exact zLp_238 (by omega) H ha f1 f2 13 ty h 0 _ _ zExt.rf T E zFm.rf rfl rfl
end
section
/-! has by hand; the chain that isDealt follows; printed with wip/gen/gen_has.py -/
theorem zJ_178 : zJ3 178 z_m178 z_c178 z_h178 := ⟨rfl, rfl, rfl⟩
noncomputable def zbit (s f : Int32) : Bool := decide ((s >>> (f &&& 31)) &&& 1 = 1)
theorem zR_178 {sx : zX} {d : Nat} {h : zH} {s f : Int32} : z_ok sx d 178 0 [(0, .int s), (1, .int f)] [] h (fun o h' x y => h' = h ∧ x = 0 ∧ y = 0 ∧ o = .inl (some (.int (if zbit s f = true then 1 else 0)))) := by
  refine zh zJ_178 (i := (1, 0, 0, 0)) rfl rfl (k' := 1) (lo' := [(0, .int s), (1, .int f)]) (st' := [.int s]) (h' := h) rfl ?_
  refine zh zJ_178 (i := (1, 1, 0, 0)) rfl rfl (k' := 2) (lo' := [(0, .int s), (1, .int f)]) (st' := [.int f, .int s]) (h' := h) rfl ?_
  refine zh zJ_178 (i := (14, 0, 0, 0)) rfl rfl (k' := 3) (lo' := [(0, .int s), (1, .int f)]) (st' := [.int (s >>> (f &&& 31))]) (h' := h) rfl ?_
  refine zh zJ_178 (i := (0, 0, 0, 1)) rfl rfl (k' := 4) (lo' := [(0, .int s), (1, .int f)]) (st' := [.int (Int32.ofInt (1)), .int (s >>> (f &&& 31))]) (h' := h) rfl ?_
  refine zh zJ_178 (i := (16, 0, 0, 0)) rfl rfl (k' := 5) (lo' := [(0, .int s), (1, .int f)]) (st' := [.int ((s >>> (f &&& 31)) &&& (Int32.ofInt (1)))]) (h' := h) rfl ?_
  refine zh zJ_178 (i := (0, 0, 0, 1)) rfl rfl (k' := 6) (lo' := [(0, .int s), (1, .int f)]) (st' := [.int (Int32.ofInt (1)), .int ((s >>> (f &&& 31)) &&& (Int32.ofInt (1)))]) (h' := h) rfl ?_
  refine zh_icmp zJ_178 (a := 9) (b := 1) (z := 0) rfl (fun hc => ?_) (fun hc => ?_)
  · refine zh zJ_178 (i := (0, 0, 0, 0)) rfl rfl (k' := 10) (lo' := [(0, .int s), (1, .int f)]) (st' := [.int (Int32.ofInt (0))]) (h' := h) rfl ?_
    refine zh_iret zJ_178 (a := 0) (b := 0) (z := 0) rfl (Or.inr ⟨rfl, Or.inl rfl⟩) ?_
    refine ⟨rfl, rfl, rfl, ?_⟩
    have hn : ¬ zbit s f = true := fun e => zcmp_ne.mp hc (by
      have e2 := of_decide_eq_true e
      exact congrArg Int32.toInt e2)
    rw [if_neg hn]
    rfl
  · refine zh zJ_178 (i := (0, 0, 0, 1)) rfl rfl (k' := 8) (lo' := [(0, .int s), (1, .int f)]) (st' := [.int (Int32.ofInt (1))]) (h' := h) rfl ?_
    refine zh zJ_178 (i := (30, 10, 0, 0)) rfl rfl (k' := 10) (lo' := [(0, .int s), (1, .int f)]) (st' := [.int (Int32.ofInt (1))]) (h' := h) rfl ?_
    refine zh_iret zJ_178 (a := 0) (b := 0) (z := 0) rfl (Or.inr ⟨rfl, Or.inr rfl⟩) ?_
    refine ⟨rfl, rfl, rfl, ?_⟩
    have hy : zbit s f = true := decide_eq_true (by
      by_cases e : ((s >>> (f &&& 31)) &&& 1).toInt = (1 : Int32).toInt
      · exact Int32.toInt_inj.mp e
      · exact absurd (zcmp_ne.mpr e) hc)
    rw [if_pos hy]
    rfl
/-- bits of small sets -/
theorem zbits : (List.range 64).all (fun s => (List.range 6).all (fun f => decide ((Int32.ofNat s ||| (1 <<< (Int32.ofNat f &&& 31))).toInt < 64 ∧ 0 ≤ (Int32.ofNat s ||| (1 <<< (Int32.ofNat f &&& 31))).toInt) && (List.range 6).all (fun g => zbit (Int32.ofNat s ||| (1 <<< (Int32.ofNat f &&& 31))) (Int32.ofNat g) == (decide (g = f) || zbit (Int32.ofNat s) (Int32.ofNat g))))) = true := by decide +kernel
theorem zbit0 : (List.range 6).all (fun g => !zbit 0 (Int32.ofNat g)) = true := by decide +kernel
theorem zofn {x : Int32} {n : Nat} (h : x.toInt = (n : Int)) (hn : n ≤ 1000) : x = Int32.ofNat n := Int32.toInt_inj.mp (by rw [h, zofNat hn])
theorem zbit_or {s f : Int32} (s1 : 0 ≤ s.toInt) (s2 : s.toInt < 64) (f1 : 0 ≤ f.toInt) (f2 : f.toInt < 6) : (0 ≤ (s ||| (1 <<< (f &&& 31))).toInt ∧ (s ||| (1 <<< (f &&& 31))).toInt < 64) ∧ ∀ g : Int32, 0 ≤ g.toInt → g.toInt < 6 → (zbit (s ||| (1 <<< (f &&& 31))) g = true ↔ g = f ∨ zbit s g = true) := by
  have es := zofn (x := s) (n := s.toInt.toNat) (by omega) (by omega)
  have ef := zofn (x := f) (n := f.toInt.toNat) (by omega) (by omega)
  have h1 := List.all_eq_true.mp zbits s.toInt.toNat (List.mem_range.mpr (by omega))
  have h2 := List.all_eq_true.mp h1 f.toInt.toNat (List.mem_range.mpr (by omega))
  rw [← es, ← ef, Bool.and_eq_true, decide_eq_true_eq] at h2
  refine ⟨⟨h2.1.2, h2.1.1⟩, fun g g1 g2 => ?_⟩
  have eg := zofn (x := g) (n := g.toInt.toNat) (by omega) (by omega)
  have h3 := List.all_eq_true.mp h2.2 g.toInt.toNat (List.mem_range.mpr (by omega))
  rw [← eg] at h3
  rw [beq_iff_eq.mp h3, Bool.or_eq_true, decide_eq_true_eq]
  refine or_congr ⟨fun e => Int32.toInt_inj.mp (by omega), fun e => by rw [e]⟩ Iff.rfl
/-- each that was seen came from one seen before it, or from none -/
noncomputable def zChn (s : Int32) (cf : Nat → Int32) : Prop := (0 ≤ s.toInt ∧ s.toInt < 64) ∧ ∃ (rk : Int → Nat) (N : Nat), ∀ g : Int32, 0 ≤ g.toInt → g.toInt < 6 → zbit s g = true → rk g.toInt ≤ N ∧ ((cf g.toInt.toNat).toInt = -1 ∨ (0 ≤ (cf g.toInt.toNat).toInt ∧ (cf g.toInt.toNat).toInt < 6 ∧ zbit s (cf g.toInt.toNat) = true ∧ rk (cf g.toInt.toNat).toInt < rk g.toInt))
theorem zChn_0 (cf : Nat → Int32) : zChn 0 cf := ⟨⟨by decide, by decide⟩, fun _ => 0, 0, fun g g1 g2 hb => by
  have eg := zofn (x := g) (n := g.toInt.toNat) (by omega) (by omega)
  have h := List.all_eq_true.mp zbit0 g.toInt.toNat (List.mem_range.mpr (by omega))
  rw [← eg, hb] at h
  cases h⟩
theorem zChn_add {s f v : Int32} {cf : Nat → Int32} (h : zChn s cf) (f1 : 0 ≤ f.toInt) (f2 : f.toInt < 6) (hf : ¬ zbit s f = true) (hv : v.toInt = -1 ∨ (0 ≤ v.toInt ∧ v.toInt < 6 ∧ zbit s v = true)) : zChn (s ||| (1 <<< (f &&& 31))) (upd cf f.toInt.toNat v) := by
  obtain ⟨⟨s1, s2⟩, rk, N, H⟩ := h
  obtain ⟨hr, hb⟩ := zbit_or s1 s2 f1 f2
  refine ⟨hr, fun z => if z = f.toInt then N + 1 else rk z, N + 1, fun g g1 g2 hg => ?_⟩
  unfold upd
  dsimp only
  rcases (hb g g1 g2).mp hg with e | e
  · subst e
    refine ⟨by rw [if_pos rfl]; exact Nat.le_refl _, ?_⟩
    rw [if_pos rfl, if_pos rfl]
    rcases hv with hv | ⟨v1, v2, v3⟩
    · exact Or.inl hv
    · refine Or.inr ⟨v1, v2, (hb v v1 v2).mpr (Or.inr v3), ?_⟩
      have hne : v.toInt ≠ g.toInt := fun e => hf (by rw [← Int32.toInt_inj.mp e]; exact v3)
      rw [if_neg hne]
      have := (H v v1 v2 v3).1
      omega
  · have hne : g.toInt ≠ f.toInt := fun q => hf (by rw [← Int32.toInt_inj.mp q]; exact e)
    obtain ⟨k1, k2⟩ := H g g1 g2 e
    refine ⟨by rw [if_neg hne]; omega, ?_⟩
    rw [if_neg (show ¬ g.toInt.toNat = f.toInt.toNat by omega), if_neg hne]
    rcases k2 with k2 | ⟨v1, v2, v3, v4⟩
    · exact Or.inl k2
    · refine Or.inr ⟨v1, v2, (hb _ v1 v2).mpr (Or.inr v3), ?_⟩
      have hne2 : (cf g.toInt.toNat).toInt ≠ f.toInt := fun q => hf (by rw [← Int32.toInt_inj.mp q]; exact v3)
      rw [if_neg hne2]
      exact v4
end
section
/-! what was seen, and whence: as the heap has it -/
noncomputable def zSe (h : zH) (a : Nat) (s : Int32) (cf : Nat → Int32) : Prop := ∃ (e ec : zE) (wc : Nat), h[a]? = some e ∧ z_rd e 22 = some (.int s) ∧ z_rd e 21 = some (.ref wc) ∧ h[wc]? = some ec ∧ ∀ i, i < 6 → z_rd ec i = some (.int (cf i))
theorem zSe.keep {ms : List zMod} {ty : List Nat} {h h' : zH} {a : Nat} {s : Int32} {cf : Nat → Int32} (S : zSe h a s cf) (T : zTY z_tt ty h) (ha : ty[a]? = some 20) (F : zFm ms ty h h') (h1 : ∀ i, 21 ≤ i → i ≤ 22 → ¬ zIn ms 20 i) (h2 : ∀ i, ¬ zIn ms 32 i) : zSe h' a s cf := by
  obtain ⟨e, ec, wc, k1, k2, k3, k4, k5⟩ := S
  have hla : a < h'.length := Nat.lt_of_lt_of_le (List.getElem?_eq_some_iff.mp k1).1 F.1
  have hlc : wc < h'.length := Nat.lt_of_lt_of_le (List.getElem?_eq_some_iff.mp k4).1 F.1
  have hc : ty[wc]? = some 32 := by
    obtain ⟨i, t, q1, q2, q3, q4⟩ := (T.2.2 a 20 e ha k1).2 21 _ k3 (21, 21, (2, 32, 32)) (by decide +kernel) (by decide) (by decide)
    cases q1
    have : t = 32 := by omega
    rw [← this]
    exact q2
  refine ⟨h'[a], h'[wc], wc, List.getElem?_eq_getElem hla, ?_, ?_, List.getElem?_eq_getElem hlc, fun i hi => ?_⟩
  · rw [F.2 a 20 e _ ha k1 (List.getElem?_eq_getElem hla) 22 (h1 22 (by omega) (by omega))]
    exact k2
  · rw [F.2 a 20 e _ ha k1 (List.getElem?_eq_getElem hla) 21 (h1 21 (by omega) (by omega))]
    exact k3
  · rw [F.2 wc 32 ec _ hc k4 (List.getElem?_eq_getElem hlc) i (h2 i)]
    exact k5 i hi
noncomputable def zC_fam : zCt := (184, [(2, 20, 20)], [(0, 0, 6)], [], [], 2, (0, 0, 0, 0), [])
noncomputable def zC_wsh : zCt := (191, [(2, 20, 20), (0, 0, 5), (0, 0, 23)], [(0, 0, 1)], [], [], 6, (0, 0, 0, 0), [])
noncomputable def zC_shr : zCt := (243, [(2, 20, 20), (0, 0, 5)], [zFull], [], [], 10, (0, 0, 0, 0), [])
theorem zK_fam : zck z_tt zCtl zCand 240 zC_fam 0 4000 = true := by decide +kernel
theorem zK_wsh : zck z_tt zCtl zCand 240 zC_wsh 0 4000 = true := by decide +kernel
theorem zK_shr : zck z_tt zCtl zCand 240 zC_shr 0 4000 = true := by decide +kernel
theorem zJ_285 : zJ3 285 z_m285 z_c285 z_h285 := ⟨rfl, rfl, rfl⟩
theorem zJ_286 : zJ3 286 z_m286 z_c286 z_h286 := ⟨rfl, rfl, rfl⟩
theorem zJ_287 : zJ3 287 z_m287 z_c287 z_h287 := ⟨rfl, rfl, rfl⟩
end
