/-! has by hand; the chain that isDealt follows; printed with wip/gen/gen_has.py -/
theorem zJ_178 : zJ3 178 z_m178 z_c178 z_h178 := ⟨rfl, rfl, rfl⟩
noncomputable def zbit (s f : Int32) : Bool := decide ((s >>> (f &&& 31)) &&& 1 = 1)
theorem zR_178 {sx : zX} {d : Nat} {h : zH} {s f : Int32} : z_ok sx d 178 0 [(0, .int s), (1, .int f)] [] h (fun o h' x y => h' = h ∧ x = 0 ∧ y = 0 ∧ o = .inl (some (.int (if zbit s f = true then 1 else 0)))) := by
  refine zh zJ_178 (i := (1, 0, 0, 0)) rfl rfl (k' := 1) (lo' := [(0, .int s), (1, .int f)]) (st' := [.int s]) (h' := h) rfl ?_
  refine zh zJ_178 (i := (1, 1, 0, 0)) rfl rfl (k' := 2) (lo' := [(0, .int s), (1, .int f)]) (st' := [.int f, .int s]) (h' := h) rfl ?_
  refine zh zJ_178 (i := (14, 0, 0, 0)) rfl rfl (k' := 3) (lo' := [(0, .int s), (1, .int f)]) (st' := [.int (s >>> (f &&& 31))]) (h' := h) rfl ?_
  refine zh zJ_178 (i := (0, 0, 0, 1)) rfl rfl (k' := 4) (lo' := [(0, .int s), (1, .int f)]) (st' := [.int (Int32.ofInt (1)), .int (s >>> (f &&& 31))]) (h' := h) rfl ?_
  refine zh zJ_178 (i := (16, 0, 0, 0)) rfl rfl (k' := 5) (lo' := [(0, .int s), (1, .int f)]) (st' := [.int ((s >>> (f &&& 31)) &&& (Int32.ofInt (1)))]) (h' := h) rfl ?_
  refine zh zJ_178 (i := (0, 0, 0, 1)) rfl rfl (k' := 6) (lo' := [(0, .int s), (1, .int f)]) (st' := [.int (Int32.ofInt (1)), .int ((s >>> (f &&& 31)) &&& (Int32.ofInt (1)))]) (h' := h) rfl ?_
  refine zh_icmp zJ_178 (a := 9) (b := 1) (z := 0) rfl (fun hc => ?_) (fun hc => ?_)
  · refine zh zJ_178 (i := (0, 0, 0, 0)) rfl rfl (k' := 10) (lo' := [(0, .int s), (1, .int f)]) (st' := [.int (Int32.ofInt (0))]) (h' := h) rfl ?_
    refine zh_iret zJ_178 (a := 0) (b := 0) (z := 0) rfl (Or.inr ⟨rfl, Or.inl rfl⟩) ?_
    refine ⟨rfl, rfl, rfl, ?_⟩
    have hn : ¬ zbit s f = true := fun e => zcmp_ne.mp hc (by
      have e2 := of_decide_eq_true e
      exact congrArg Int32.toInt e2)
    rw [if_neg hn]
    rfl
  · refine zh zJ_178 (i := (0, 0, 0, 1)) rfl rfl (k' := 8) (lo' := [(0, .int s), (1, .int f)]) (st' := [.int (Int32.ofInt (1))]) (h' := h) rfl ?_
    refine zh zJ_178 (i := (30, 10, 0, 0)) rfl rfl (k' := 10) (lo' := [(0, .int s), (1, .int f)]) (st' := [.int (Int32.ofInt (1))]) (h' := h) rfl ?_
    refine zh_iret zJ_178 (a := 0) (b := 0) (z := 0) rfl (Or.inr ⟨rfl, Or.inr rfl⟩) ?_
    refine ⟨rfl, rfl, rfl, ?_⟩
    have hy : zbit s f = true := decide_eq_true (by
      by_cases e : ((s >>> (f &&& 31)) &&& 1).toInt = (1 : Int32).toInt
      · exact Int32.toInt_inj.mp e
      · exact absurd (zcmp_ne.mpr e) hc)
    rw [if_pos hy]
    rfl
/-- bits of small sets -/
theorem zbits : (List.range 64).all (fun s => (List.range 6).all (fun f => decide ((Int32.ofNat s ||| (1 <<< (Int32.ofNat f &&& 31))).toInt < 64 ∧ 0 ≤ (Int32.ofNat s ||| (1 <<< (Int32.ofNat f &&& 31))).toInt) && (List.range 6).all (fun g => zbit (Int32.ofNat s ||| (1 <<< (Int32.ofNat f &&& 31))) (Int32.ofNat g) == (decide (g = f) || zbit (Int32.ofNat s) (Int32.ofNat g))))) = true := by decide +kernel
theorem zbit0 : (List.range 6).all (fun g => !zbit 0 (Int32.ofNat g)) = true := by decide +kernel
theorem zofn {x : Int32} {n : Nat} (h : x.toInt = (n : Int)) (hn : n ≤ 1000) : x = Int32.ofNat n := Int32.toInt_inj.mp (by rw [h, zofNat hn])
theorem zbit_or {s f : Int32} (s1 : 0 ≤ s.toInt) (s2 : s.toInt < 64) (f1 : 0 ≤ f.toInt) (f2 : f.toInt < 6) : (0 ≤ (s ||| (1 <<< (f &&& 31))).toInt ∧ (s ||| (1 <<< (f &&& 31))).toInt < 64) ∧ ∀ g : Int32, 0 ≤ g.toInt → g.toInt < 6 → (zbit (s ||| (1 <<< (f &&& 31))) g = true ↔ g = f ∨ zbit s g = true) := by
  have es := zofn (x := s) (n := s.toInt.toNat) (by omega) (by omega)
  have ef := zofn (x := f) (n := f.toInt.toNat) (by omega) (by omega)
  have h1 := List.all_eq_true.mp zbits s.toInt.toNat (List.mem_range.mpr (by omega))
  have h2 := List.all_eq_true.mp h1 f.toInt.toNat (List.mem_range.mpr (by omega))
  rw [← es, ← ef, Bool.and_eq_true, decide_eq_true_eq] at h2
  refine ⟨⟨h2.1.2, h2.1.1⟩, fun g g1 g2 => ?_⟩
  have eg := zofn (x := g) (n := g.toInt.toNat) (by omega) (by omega)
  have h3 := List.all_eq_true.mp h2.2 g.toInt.toNat (List.mem_range.mpr (by omega))
  rw [← eg] at h3
  rw [beq_iff_eq.mp h3, Bool.or_eq_true, decide_eq_true_eq]
  refine or_congr ⟨fun e => Int32.toInt_inj.mp (by omega), fun e => by rw [e]⟩ Iff.rfl
/-- each that was seen came from one seen before it, or from none -/
noncomputable def zChn (s : Int32) (cf : Nat → Int32) : Prop := (0 ≤ s.toInt ∧ s.toInt < 64) ∧ ∃ (rk : Int → Nat) (N : Nat), ∀ g : Int32, 0 ≤ g.toInt → g.toInt < 6 → zbit s g = true → rk g.toInt ≤ N ∧ ((cf g.toInt.toNat).toInt = -1 ∨ (0 ≤ (cf g.toInt.toNat).toInt ∧ (cf g.toInt.toNat).toInt < 6 ∧ zbit s (cf g.toInt.toNat) = true ∧ rk (cf g.toInt.toNat).toInt < rk g.toInt))
theorem zChn_0 (cf : Nat → Int32) : zChn 0 cf := ⟨⟨by decide, by decide⟩, fun _ => 0, 0, fun g g1 g2 hb => by
  have eg := zofn (x := g) (n := g.toInt.toNat) (by omega) (by omega)
  have h := List.all_eq_true.mp zbit0 g.toInt.toNat (List.mem_range.mpr (by omega))
  rw [← eg, hb] at h
  cases h⟩
theorem zChn_add {s f v : Int32} {cf : Nat → Int32} (h : zChn s cf) (f1 : 0 ≤ f.toInt) (f2 : f.toInt < 6) (hf : ¬ zbit s f = true) (hv : v.toInt = -1 ∨ (0 ≤ v.toInt ∧ v.toInt < 6 ∧ zbit s v = true)) : zChn (s ||| (1 <<< (f &&& 31))) (upd cf f.toInt.toNat v) := by
  obtain ⟨⟨s1, s2⟩, rk, N, H⟩ := h
  obtain ⟨hr, hb⟩ := zbit_or s1 s2 f1 f2
  refine ⟨hr, fun z => if z = f.toInt then N + 1 else rk z, N + 1, fun g g1 g2 hg => ?_⟩
  unfold upd
  dsimp only
  rcases (hb g g1 g2).mp hg with e | e
  · subst e
    refine ⟨by rw [if_pos rfl]; exact Nat.le_refl _, ?_⟩
    rw [if_pos rfl, if_pos rfl]
    rcases hv with hv | ⟨v1, v2, v3⟩
    · exact Or.inl hv
    · refine Or.inr ⟨v1, v2, (hb v v1 v2).mpr (Or.inr v3), ?_⟩
      have hne : v.toInt ≠ g.toInt := fun e => hf (by rw [← Int32.toInt_inj.mp e]; exact v3)
      rw [if_neg hne]
      have := (H v v1 v2 v3).1
      omega
  · have hne : g.toInt ≠ f.toInt := fun q => hf (by rw [← Int32.toInt_inj.mp q]; exact e)
    obtain ⟨k1, k2⟩ := H g g1 g2 e
    refine ⟨by rw [if_neg hne]; omega, ?_⟩
    rw [if_neg (show ¬ g.toInt.toNat = f.toInt.toNat by omega), if_neg hne]
    rcases k2 with k2 | ⟨v1, v2, v3, v4⟩
    · exact Or.inl k2
    · refine Or.inr ⟨v1, v2, (hb _ v1 v2).mpr (Or.inr v3), ?_⟩
      have hne2 : (cf g.toInt.toNat).toInt ≠ f.toInt := fun q => hf (by rw [← Int32.toInt_inj.mp q]; exact v3)
      rw [if_neg hne2]
      exact v4
