/-! undo, remembers by hand; printed with wip/gen/gen_copy3.py -/
noncomputable def zshc (r1 r2 : List (Int × Int × zA)) (N p q : Nat) : Bool := r2.all (fun r => decide ((q : Int) + (N : Int) ≤ r.1) || (decide (r.2.1 < (q : Int)) || r1.any (fun r' => decide (r' = (r.1 + ((p : Int) - (q : Int)), r.2.1 + ((p : Int) - (q : Int)), r.2.2)))))
theorem zreg_sh {r1 r2 : List (Int × Int × zA)} {N p q : Nat} (hc : zshc r1 r2 N p q = true) {i : Nat} (hi : i < N) : ∀ r ∈ r2, r.1 ≤ ((q + i : Nat) : Int) → ((q + i : Nat) : Int) ≤ r.2.1 → ∃ r' ∈ r1, r'.1 ≤ ((p + i : Nat) : Int) ∧ ((p + i : Nat) : Int) ≤ r'.2.1 ∧ r'.2.2 = r.2.2 := by
  intro r hr h1 h2
  have := List.all_eq_true.mp hc r hr
  rw [Bool.or_eq_true, Bool.or_eq_true, decide_eq_true_eq, decide_eq_true_eq] at this
  rcases this with h | h | h
  · omega
  · omega
  · obtain ⟨r', m, e⟩ := List.any_eq_true.mp h
    have e := of_decide_eq_true e
    subst e
    exact ⟨_, m, by dsimp only; omega, by dsimp only; omega, rfl⟩
theorem zmad {m x : Int32} {mn i : Nat} (hm : m.toInt = (mn : Int)) (hx : x.toInt = (i : Int)) (h1 : mn ≤ 12) (h2 : i ≤ 400) : (Int32.ofInt (388) * m + x).toInt = ((388 * mn + i : Nat) : Int) := by
  have e1 : (Int32.ofInt (388) * m).toInt = 388 * (mn : Int) := by
    rw [Int32.toInt_mul, hm, show (Int32.ofInt (388)).toInt = 388 from rfl]
    exact z_bm (by omega) (by omega)
  rw [Int32.toInt_add, e1, hx, z_bm (by omega) (by omega)]
  omega
theorem zsub1 {m : Int32} (h1 : -1000 ≤ m.toInt) (h2 : m.toInt ≤ 1000) : (m - Int32.ofInt (1)).toInt = m.toInt - 1 := by
  rw [Int32.toInt_sub, show (Int32.ofInt (1)).toInt = 1 from rfl]
  exact z_bm (by omega) (by omega)
theorem zadd1 {m : Int32} (h1 : -1000 ≤ m.toInt) (h2 : m.toInt ≤ 1000) : (m + Int32.ofInt (1)).toInt = m.toInt + 1 := by
  rw [Int32.toInt_add, show (Int32.ofInt (1)).toInt = 1 from rfl]
  exact z_bm (by omega) (by omega)
theorem zsh_u : (List.range 12).all (fun m => zshc (z_tt 25).2.2.2 (z_tt 21).2.2.2 388 (388 * m) 0) = true := by decide +kernel
theorem zsh_r : (List.range 12).all (fun m => zshc (z_tt 21).2.2.2 (z_tt 25).2.2.2 388 0 (388 * m)) = true := by decide +kernel
theorem zsh_s : zshc (z_tt 25).2.2.2 (z_tt 25).2.2.2 4268 388 0 = true := by decide +kernel
theorem zJ_183 : zJ3 183 z_m183 z_c183 z_h183 := ⟨rfl, rfl, rfl⟩
theorem zJ_182 : zJ3 182 z_m182 z_c182 z_h182 := ⟨rfl, rfl, rfl⟩
set_option maxRecDepth 100000 in
theorem zLp_183 {sx : zX} {d : Nat} {Ψ : zO → zH → Nat → Nat → Prop} {ty : List Nat} {h0 : zH} {a w1 w2 : Nat} {gs : List Value} {f1 : Nat → Int32} {ms : List zMod} {m : Int32} {mn : Nat} (hmn : m.toInt = (mn : Int)) (hmb : mn ≤ 11) (hg7 : gs[7]? = some (.int m)) (ha : ty[a]? = some 20) (ht1 : ty[w1]? = some 25) (ht2 : ty[w2]? = some 21) (hg5 : gs[5]? = some (.ref w1)) (hg1 : gs[1]? = some (.ref w2)) (hm : zcv ms 21 ((0 : Nat) : Int) (((0 + 388 : Nat) : Int) - 1) = true) (kk : ∀ (x : Int32) (h : zH), zQc ty h0 a gs w1 4656 f1 w2 2086 ms (388 * mn) (0) 388 h → z_ok sx d 183 34 [(1, .int x), (0, .ref a)] [] h Ψ) {h : zH} (q : zQc ty h0 a gs w1 4656 f1 w2 2086 ms (388 * mn) (0) 0 h) : z_ok sx d 183 16 [(1, .int (Int32.ofInt (0))), (0, .ref a)] [] h Ψ := by
  refine zloop (fun x => [(1, .int x), (0, .ref a)]) 388 (zQc ty h0 a gs w1 4656 f1 w2 2086 ms (388 * mn) (0)) (fun i x h hx hi q kk => ?_) (fun x h hx q => ?_) 388 0 _ h rfl rfl q
  · obtain ⟨T, F, he, h1, g, h2, hg⟩ := q
    refine zh zJ_183 (i := (1, 1, 0, 0)) rfl rfl (k' := 17) (lo' := [(1, .int x), (0, .ref a)]) (st' := [.int x]) (h' := h) rfl ?_
    refine zh zJ_183 (i := (0, 0, 0, 388)) rfl rfl (k' := 18) (lo' := [(1, .int x), (0, .ref a)]) (st' := [.int (Int32.ofInt (388)), .int x]) (h' := h) rfl ?_
    refine zh_icmp zJ_183 (a := 34) (b := 3) (z := 0) rfl (fun hc => ?_) (fun hc => ?_)
    · exact absurd (zcmp_ge.mp hc) (by rw [hx, z_of32 (by omega) (by omega)]; omega)
    refine zh zJ_183 (i := (2, 0, 0, 0)) rfl rfl (k' := 20) (lo' := [(1, .int x), (0, .ref a)]) (st' := [.ref a]) (h' := h) rfl ?_
    refine zh_get zJ_183 (a := a) (b := 1) (c := 9) (z := 0) rfl (k' := 21) rfl he hg1 ?_
    refine zh zJ_183 (i := (1, 1, 0, 0)) rfl rfl (k' := 22) (lo' := [(1, .int x), (0, .ref a)]) (st' := [.int x, .ref w2]) (h' := h) rfl ?_
    refine zh zJ_183 (i := (2, 0, 0, 0)) rfl rfl (k' := 23) (lo' := [(1, .int x), (0, .ref a)]) (st' := [.ref a, .int x, .ref w2]) (h' := h) rfl ?_
    refine zh_get zJ_183 (a := a) (b := 5) (c := 9) (z := 0) rfl (k' := 24) rfl he hg5 ?_
    refine zh zJ_183 (i := (0, 0, 0, 388)) rfl rfl (k' := 25) (lo' := [(1, .int x), (0, .ref a)]) (st' := [.int (Int32.ofInt (388)), .ref w1, .int x, .ref w2]) (h' := h) rfl ?_
    refine zh zJ_183 (i := (2, 0, 0, 0)) rfl rfl (k' := 26) (lo' := [(1, .int x), (0, .ref a)]) (st' := [.ref a, .int (Int32.ofInt (388)), .ref w1, .int x, .ref w2]) (h' := h) rfl ?_
    refine zh_get zJ_183 (a := a) (b := 7) (c := 9) (z := 0) rfl (k' := 27) rfl he hg7 ?_
    refine zh zJ_183 (i := (10, 0, 0, 0)) rfl rfl (k' := 28) (lo' := [(1, .int x), (0, .ref a)]) (st' := [.int ((Int32.ofInt (388)) * m), .ref w1, .int x, .ref w2]) (h' := h) rfl ?_
    refine zh zJ_183 (i := (1, 1, 0, 0)) rfl rfl (k' := 29) (lo' := [(1, .int x), (0, .ref a)]) (st' := [.int x, .int ((Int32.ofInt (388)) * m), .ref w1, .int x, .ref w2]) (h' := h) rfl ?_
    refine zh zJ_183 (i := (8, 0, 0, 0)) rfl rfl (k' := 30) (lo' := [(1, .int x), (0, .ref a)]) (st' := [.int (((Int32.ofInt (388)) * m) + x), .ref w1, .int x, .ref w2]) (h' := h) rfl ?_
    have hix := zmad hmn hx (by omega) (by omega)
    refine zh_iald zJ_183 (z := 0) rfl (k' := 31) rfl h1 (by omega) (by omega) ?_
    refine zh_iast zJ_183 (z := 0) rfl (k' := 32) rfl h2 (by omega) (by omega) ?_
    refine zh zJ_183 (i := (7, 1, 0, 1)) rfl rfl (k' := 33) (lo' := [(1, .int (x + Int32.ofInt (1))), (0, .ref a)]) (st' := []) (h' := (h.set w2 (.inl (0, (2086, .inl (upd g x.toNatClampNeg (f1 (Int32.ofInt (388) * m + x).toNatClampNeg))))))) rfl ?_
    refine zh zJ_183 (i := (30, 16, 0, 0)) rfl rfl (k' := 16) (lo' := [(1, .int (x + Int32.ofInt (1))), (0, .ref a)]) (st' := []) (h' := (h.set w2 (.inl (0, (2086, .inl (upd g x.toNatClampNeg (f1 (Int32.ofInt (388) * m + x).toNatClampNeg))))))) rfl ?_
    refine kk _ _ (zinc hx (by omega)) ?_
    rw [znat hx, znat hix]
    have := zQc_step (N := 388) (t1 := 25) (t2 := 21) ⟨T, F, he, h1, h2, hg⟩ hi (by omega) (by omega) ha ht1 ht2 (by decide) (by decide) (zreg_sh (N := 388) (List.all_eq_true.mp zsh_u mn (List.mem_range.mpr (by omega))) hi) hm
    rw [Nat.zero_add] at this
    exact this
  · refine zh zJ_183 (i := (1, 1, 0, 0)) rfl rfl (k' := 17) (lo' := [(1, .int x), (0, .ref a)]) (st' := [.int x]) (h' := h) rfl ?_
    refine zh zJ_183 (i := (0, 0, 0, 388)) rfl rfl (k' := 18) (lo' := [(1, .int x), (0, .ref a)]) (st' := [.int (Int32.ofInt (388)), .int x]) (h' := h) rfl ?_
    refine zh_icmp zJ_183 (a := 34) (b := 3) (z := 0) rfl (fun hc => ?_) (fun hc => ?_)
    · exact kk x h q
    · exact absurd (zcmp_ge.mpr (by rw [hx, z_of32 (by omega) (by omega)]; omega)) hc
set_option maxRecDepth 100000 in
theorem zLp_182 {sx : zX} {d : Nat} {Ψ : zO → zH → Nat → Nat → Prop} {ty : List Nat} {h0 : zH} {a w1 w2 : Nat} {gs : List Value} {f1 : Nat → Int32} {ms : List zMod} {m : Int32} {mn : Nat} (hmn : (m - Int32.ofInt (1)).toInt = (mn : Int)) (hmb : mn ≤ 11) (hg7 : gs[7]? = some (.int m)) (ha : ty[a]? = some 20) (ht1 : ty[w1]? = some 21) (ht2 : ty[w2]? = some 25) (hg1 : gs[1]? = some (.ref w1)) (hg5 : gs[5]? = some (.ref w2)) (hm : zcv ms 25 ((388 * mn : Nat) : Int) (((388 * mn + 388 : Nat) : Int) - 1) = true) (kk : ∀ (x : Int32) (h : zH), zQc ty h0 a gs w1 2086 f1 w2 4656 ms (0) (388 * mn) 388 h → z_ok sx d 182 50 [(1, .int x), (0, .ref a)] [] h Ψ) {h : zH} (q : zQc ty h0 a gs w1 2086 f1 w2 4656 ms (0) (388 * mn) 0 h) : z_ok sx d 182 30 [(1, .int (Int32.ofInt (0))), (0, .ref a)] [] h Ψ := by
  refine zloop (fun x => [(1, .int x), (0, .ref a)]) 388 (zQc ty h0 a gs w1 2086 f1 w2 4656 ms (0) (388 * mn)) (fun i x h hx hi q kk => ?_) (fun x h hx q => ?_) 388 0 _ h rfl rfl q
  · obtain ⟨T, F, he, h1, g, h2, hg⟩ := q
    refine zh zJ_182 (i := (1, 1, 0, 0)) rfl rfl (k' := 31) (lo' := [(1, .int x), (0, .ref a)]) (st' := [.int x]) (h' := h) rfl ?_
    refine zh zJ_182 (i := (0, 0, 0, 388)) rfl rfl (k' := 32) (lo' := [(1, .int x), (0, .ref a)]) (st' := [.int (Int32.ofInt (388)), .int x]) (h' := h) rfl ?_
    refine zh_icmp zJ_182 (a := 50) (b := 3) (z := 0) rfl (fun hc => ?_) (fun hc => ?_)
    · exact absurd (zcmp_ge.mp hc) (by rw [hx, z_of32 (by omega) (by omega)]; omega)
    refine zh zJ_182 (i := (2, 0, 0, 0)) rfl rfl (k' := 34) (lo' := [(1, .int x), (0, .ref a)]) (st' := [.ref a]) (h' := h) rfl ?_
    refine zh_get zJ_182 (a := a) (b := 5) (c := 9) (z := 0) rfl (k' := 35) rfl he hg5 ?_
    refine zh zJ_182 (i := (0, 0, 0, 388)) rfl rfl (k' := 36) (lo' := [(1, .int x), (0, .ref a)]) (st' := [.int (Int32.ofInt (388)), .ref w2]) (h' := h) rfl ?_
    refine zh zJ_182 (i := (2, 0, 0, 0)) rfl rfl (k' := 37) (lo' := [(1, .int x), (0, .ref a)]) (st' := [.ref a, .int (Int32.ofInt (388)), .ref w2]) (h' := h) rfl ?_
    refine zh_get zJ_182 (a := a) (b := 7) (c := 9) (z := 0) rfl (k' := 38) rfl he hg7 ?_
    refine zh zJ_182 (i := (0, 0, 0, 1)) rfl rfl (k' := 39) (lo' := [(1, .int x), (0, .ref a)]) (st' := [.int (Int32.ofInt (1)), .int m, .int (Int32.ofInt (388)), .ref w2]) (h' := h) rfl ?_
    refine zh zJ_182 (i := (9, 0, 0, 0)) rfl rfl (k' := 40) (lo' := [(1, .int x), (0, .ref a)]) (st' := [.int (m - (Int32.ofInt (1))), .int (Int32.ofInt (388)), .ref w2]) (h' := h) rfl ?_
    refine zh zJ_182 (i := (10, 0, 0, 0)) rfl rfl (k' := 41) (lo' := [(1, .int x), (0, .ref a)]) (st' := [.int ((Int32.ofInt (388)) * (m - (Int32.ofInt (1)))), .ref w2]) (h' := h) rfl ?_
    refine zh zJ_182 (i := (1, 1, 0, 0)) rfl rfl (k' := 42) (lo' := [(1, .int x), (0, .ref a)]) (st' := [.int x, .int ((Int32.ofInt (388)) * (m - (Int32.ofInt (1)))), .ref w2]) (h' := h) rfl ?_
    refine zh zJ_182 (i := (8, 0, 0, 0)) rfl rfl (k' := 43) (lo' := [(1, .int x), (0, .ref a)]) (st' := [.int (((Int32.ofInt (388)) * (m - (Int32.ofInt (1)))) + x), .ref w2]) (h' := h) rfl ?_
    refine zh zJ_182 (i := (2, 0, 0, 0)) rfl rfl (k' := 44) (lo' := [(1, .int x), (0, .ref a)]) (st' := [.ref a, .int (((Int32.ofInt (388)) * (m - (Int32.ofInt (1)))) + x), .ref w2]) (h' := h) rfl ?_
    refine zh_get zJ_182 (a := a) (b := 1) (c := 9) (z := 0) rfl (k' := 45) rfl he hg1 ?_
    refine zh zJ_182 (i := (1, 1, 0, 0)) rfl rfl (k' := 46) (lo' := [(1, .int x), (0, .ref a)]) (st' := [.int x, .ref w1, .int (((Int32.ofInt (388)) * (m - (Int32.ofInt (1)))) + x), .ref w2]) (h' := h) rfl ?_
    refine zh_iald zJ_182 (z := 0) rfl (k' := 47) rfl h1 (by omega) (by omega) ?_
    have hix := zmad hmn hx (by omega) (by omega)
    refine zh_iast zJ_182 (z := 0) rfl (k' := 48) rfl h2 (by omega) (by omega) ?_
    refine zh zJ_182 (i := (7, 1, 0, 1)) rfl rfl (k' := 49) (lo' := [(1, .int (x + Int32.ofInt (1))), (0, .ref a)]) (st' := []) (h' := (h.set w2 (.inl (0, (4656, .inl (upd g (Int32.ofInt (388) * (m - Int32.ofInt (1)) + x).toNatClampNeg (f1 x.toNatClampNeg))))))) rfl ?_
    refine zh zJ_182 (i := (30, 30, 0, 0)) rfl rfl (k' := 30) (lo' := [(1, .int (x + Int32.ofInt (1))), (0, .ref a)]) (st' := []) (h' := (h.set w2 (.inl (0, (4656, .inl (upd g (Int32.ofInt (388) * (m - Int32.ofInt (1)) + x).toNatClampNeg (f1 x.toNatClampNeg))))))) rfl ?_
    refine kk _ _ (zinc hx (by omega)) ?_
    rw [znat hx, znat hix]
    have := zQc_step (N := 388) (t1 := 21) (t2 := 25) ⟨T, F, he, h1, h2, hg⟩ hi (by omega) (by omega) ha ht1 ht2 (by decide) (by decide) (zreg_sh (N := 388) (List.all_eq_true.mp zsh_r mn (List.mem_range.mpr (by omega))) hi) hm
    rw [Nat.zero_add] at this
    exact this
  · refine zh zJ_182 (i := (1, 1, 0, 0)) rfl rfl (k' := 31) (lo' := [(1, .int x), (0, .ref a)]) (st' := [.int x]) (h' := h) rfl ?_
    refine zh zJ_182 (i := (0, 0, 0, 388)) rfl rfl (k' := 32) (lo' := [(1, .int x), (0, .ref a)]) (st' := [.int (Int32.ofInt (388)), .int x]) (h' := h) rfl ?_
    refine zh_icmp zJ_182 (a := 50) (b := 3) (z := 0) rfl (fun hc => ?_) (fun hc => ?_)
    · exact kk x h q
    · exact absurd (zcmp_ge.mpr (by rw [hx, z_of32 (by omega) (by omega)]; omega)) hc
set_option maxRecDepth 100000 in
theorem zLs_182 {sx : zX} {d : Nat} {Ψ : zO → zH → Nat → Nat → Prop} {ty : List Nat} {h0 : zH} {a w : Nat} {gs : List Value} {ms : List zMod} (ha : ty[a]? = some 20) (ht : ty[w]? = some 25) (hg5 : gs[5]? = some (.ref w)) (hm : zcv ms 25 0 4267 = true) (kk : ∀ (x : Int32) (h : zH), zTY z_tt ty h ∧ zFm ms ty h0 h ∧ h[a]? = some (.inr (9, gs)) → z_ok sx d 182 21 [(1, .int x), (0, .ref a)] [] h Ψ) {h : zH} (q : zTY z_tt ty h ∧ zFm ms ty h0 h ∧ h[a]? = some (.inr (9, gs))) : z_ok sx d 182 6 [(1, .int (Int32.ofInt (0))), (0, .ref a)] [] h Ψ := by
  refine zloop (fun x => [(1, .int x), (0, .ref a)]) 4268 (fun _ h => zTY z_tt ty h ∧ zFm ms ty h0 h ∧ h[a]? = some (.inr (9, gs))) (fun i x h hx hi q kk => ?_) (fun x h hx q => ?_) 4268 0 _ h rfl rfl q
  · obtain ⟨T, F, he⟩ := q
    obtain ⟨f, hf⟩ := zcell1 (n := 4656) T ht rfl rfl
    refine zh zJ_182 (i := (1, 1, 0, 0)) rfl rfl (k' := 7) (lo' := [(1, .int x), (0, .ref a)]) (st' := [.int x]) (h' := h) rfl ?_
    refine zh zJ_182 (i := (0, 0, 0, 4268)) rfl rfl (k' := 8) (lo' := [(1, .int x), (0, .ref a)]) (st' := [.int (Int32.ofInt (4268)), .int x]) (h' := h) rfl ?_
    refine zh_icmp zJ_182 (a := 21) (b := 3) (z := 0) rfl (fun hc => ?_) (fun hc => ?_)
    · exact absurd (zcmp_ge.mp hc) (by rw [hx, z_of32 (by omega) (by omega)]; omega)
    refine zh zJ_182 (i := (2, 0, 0, 0)) rfl rfl (k' := 10) (lo' := [(1, .int x), (0, .ref a)]) (st' := [.ref a]) (h' := h) rfl ?_
    refine zh_get zJ_182 (a := a) (b := 5) (c := 9) (z := 0) rfl (k' := 11) rfl he hg5 ?_
    refine zh zJ_182 (i := (1, 1, 0, 0)) rfl rfl (k' := 12) (lo' := [(1, .int x), (0, .ref a)]) (st' := [.int x, .ref w]) (h' := h) rfl ?_
    refine zh zJ_182 (i := (2, 0, 0, 0)) rfl rfl (k' := 13) (lo' := [(1, .int x), (0, .ref a)]) (st' := [.ref a, .int x, .ref w]) (h' := h) rfl ?_
    refine zh_get zJ_182 (a := a) (b := 5) (c := 9) (z := 0) rfl (k' := 14) rfl he hg5 ?_
    refine zh zJ_182 (i := (1, 1, 0, 0)) rfl rfl (k' := 15) (lo' := [(1, .int x), (0, .ref a)]) (st' := [.int x, .ref w, .int x, .ref w]) (h' := h) rfl ?_
    refine zh zJ_182 (i := (0, 0, 0, 388)) rfl rfl (k' := 16) (lo' := [(1, .int x), (0, .ref a)]) (st' := [.int (Int32.ofInt (388)), .int x, .ref w, .int x, .ref w]) (h' := h) rfl ?_
    refine zh zJ_182 (i := (8, 0, 0, 0)) rfl rfl (k' := 17) (lo' := [(1, .int x), (0, .ref a)]) (st' := [.int (x + (Int32.ofInt (388))), .ref w, .int x, .ref w]) (h' := h) rfl ?_
    have hix : (x + Int32.ofInt (388)).toInt = ((388 + i : Nat) : Int) := by
      rw [Int32.toInt_add, hx, show (Int32.ofInt (388)).toInt = 388 from rfl, z_bm (by omega) (by omega)]
      omega
    refine zh_iald zJ_182 (z := 0) rfl (k' := 18) rfl hf (by omega) (by omega) ?_
    refine zh_iast zJ_182 (z := 0) rfl (k' := 19) rfl hf (by omega) (by omega) ?_
    refine zh zJ_182 (i := (7, 1, 0, 1)) rfl rfl (k' := 20) (lo' := [(1, .int (x + Int32.ofInt (1))), (0, .ref a)]) (st' := []) (h' := (h.set w (.inl (0, (4656, .inl (upd f x.toNatClampNeg (f (x + Int32.ofInt (388)).toNatClampNeg))))))) rfl ?_
    refine zh zJ_182 (i := (30, 6, 0, 0)) rfl rfl (k' := 6) (lo' := [(1, .int (x + Int32.ofInt (1))), (0, .ref a)]) (st' := []) (h' := (h.set w (.inl (0, (4656, .inl (upd f x.toNatClampNeg (f (x + Int32.ofInt (388)).toNatClampNeg))))))) rfl ?_
    refine kk _ _ (zinc hx (by omega)) ?_
    rw [znat hx, znat hix]
    have hreg := zreg_sh (N := 4268) zsh_s hi
    obtain ⟨T', F'⟩ := zwr (ms := ms) T ht hf (i := i) (x := f (388 + i)) (by omega) (fun r hr r1 r2 => by
      obtain ⟨r', m', a1, a2, a3⟩ := hreg r hr (by rw [Nat.zero_add]; exact r1) (by rw [Nat.zero_add]; exact r2)
      rw [← a3]
      exact (T.2.2 w 25 _ ht hf).2 (388 + i) _ (by rw [z_rd0, if_pos (by omega)]) r' m' a1 a2) (zcv_ok hm (by omega) (by omega))
    exact ⟨T', F.tr zExt.rf F', by rw [zset_ne (fun e => by rw [e, ha] at ht; cases ht)]; exact he⟩
  · refine zh zJ_182 (i := (1, 1, 0, 0)) rfl rfl (k' := 7) (lo' := [(1, .int x), (0, .ref a)]) (st' := [.int x]) (h' := h) rfl ?_
    refine zh zJ_182 (i := (0, 0, 0, 4268)) rfl rfl (k' := 8) (lo' := [(1, .int x), (0, .ref a)]) (st' := [.int (Int32.ofInt (4268)), .int x]) (h' := h) rfl ?_
    refine zh_icmp zJ_182 (a := 21) (b := 3) (z := 0) rfl (fun hc => ?_) (fun hc => ?_)
    · exact kk x h q
    · exact absurd (zcmp_ge.mpr (by rw [hx, z_of32 (by omega) (by omega)]; omega)) hc
