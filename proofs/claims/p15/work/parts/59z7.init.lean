section
/-! the two constructors, by the kernel: what it says; printed with wip/gen/gen_init.py -/
theorem zty0_u : zUb zty0 = true := by decide +kernel
theorem zend_ok {r : Option zRes} {n : Nat} (h : zend r n = true) : ∃ h' x y, r = some (.inl none, h', x, y) ∧ h'.length = n ∧ x ≤ 1000 ∧ y ≤ 100000 := by
  unfold zend at h
  split at h
  · next h' x y =>
    rw [Bool.and_eq_true, Bool.and_eq_true, decide_eq_true_eq, decide_eq_true_eq, decide_eq_true_eq] at h
    exact ⟨h', x, y, rfl, h⟩
  · cases h
end
section
/-! the loop's start: the skeleton and the bytes; printed with wip/gen/gen_init.py -/
theorem zty0_1 : zty0 = zty1 := by decide +kernel
theorem zSkl_0 : zSkl zih := by
  intro q hq
  have h := List.all_eq_true.mp zih_s_ok q hq
  split at h
  · next r e => rw [e, of_decide_eq_true h]
  · cases h
theorem zByq_at {z : zH} {f g : Nat → Int32} (S : zSkl z) (h2 : z[2]? = some (.inl (0, (400, .inl f)))) (h211 : z[211]? = some (.inl (1, (400, .inl g)))) (hk : ∀ k, k < 400 → (f k).toInt = 0 ∧ (g k).toInt = 0) : zByq z := by
  intro k
  have c0 : cu (za z) 1 k = 0 := by
    show (q_i (zv z (q_r (zv z 1 0)) k)).toInt = 0
    rw [S.at (1, 0, 2) (by decide +kernel)]
    show (q_i (zv z 2 k)).toInt = 0
    rw [zv_at h2, z_rd0]
    by_cases hq : k < 400
    · rw [if_pos hq]; exact (hk k hq).1
    · rw [if_neg hq]; rfl
  have r0 : rb (za z) 205 k = 0 := by
    show (q_i (zv z (q_r (zv z 205 8)) k)).toInt = 0
    rw [S.at (205, 8, 211) (by decide +kernel)]
    show (q_i (zv z 211 k)).toInt = 0
    rw [zv_at h211, z_rd1]
    by_cases hq : k < 400
    · rw [if_pos hq]; exact (hk k hq).2
    · rw [if_neg hq]; rfl
  unfold cb
  rw [c0, r0]
  exact ⟨by decide, by decide, by decide⟩
theorem zBb_ok {z : zH} (S : zSkl z) (h : zBb z = true) : zByq z := by
  unfold zBb at h
  split at h
  case h_2 => cases h
  next n f m g h2 h211 =>
  rw [Bool.and_eq_true, Bool.and_eq_true, decide_eq_true_eq, decide_eq_true_eq] at h
  obtain ⟨rfl, rfl, h⟩ := h
  exact zByq_at S h2 h211 (fun k hk => by
    have := List.all_eq_true.mp h k (List.mem_range.mpr hk)
    rw [Bool.and_eq_true, decide_eq_true_eq, decide_eq_true_eq] at this
    exact this)
theorem zLxt_0 (T : zTY z_tt zty0 zih) : zLxt zty0 zih 0 205 218 :=
  ⟨⟨rfl, rfl, rfl⟩, by rw [zty0_1]; exact zExt.rf, zSkl_0, zBb_ok zSkl_0 zih_b_ok⟩
end
section
/-! the loop's start: the whole relation holds; printed with wip/gen/gen_init.py -/
theorem zIsI_ok {v : Value} {x : Int32} (h : zIsI v x = true) : v = .int x := by
  unfold zIsI at h
  split at h
  · rw [of_decide_eq_true h]
  · cases h
theorem zIsN_ok {v : Value} (h : zIsN v = true) : v = .null := by
  unfold zIsN at h
  split at h
  · rfl
  · cases h
theorem zA0_a : (List.range 8).all (fun t => decide (zA0 (66 + 3 * t) = Int32.ofInt 0)) = true := by decide +kernel
theorem zA0_b : (List.range 300).all (fun t => decide (zA0 (88 + t) = Int32.ofInt 0)) = true := by decide +kernel
theorem zA0_c : (List.range 24).all (fun t => decide (zA0 (16 + t) = Int32.ofInt (-1))) = true := by decide +kernel
theorem zHbs_t : zHbs.all (fun b => decide (zty1[b + 11]? = some 14 ∧ zty1[b + 12]? = some 12)) = true := by decide +kernel
theorem zrall {n : Nat} {p : Nat → Bool} (h : (List.range n).all p = true) {k : Nat} (hk : k < n) : p k = true := List.all_eq_true.mp h k (List.mem_range.mpr hk)
theorem zHsk_in {z : zH} (S : zSkl z) {b c j d : Nat} (hb : b ∈ zHbs) (h : (c, j, d) ∈ zHsk b) : zv z c j = .ref d := S (c, j, d) (by
  unfold zskl
  exact List.mem_append.mpr (Or.inl (List.mem_append.mpr (Or.inr (List.mem_flatMap.mpr ⟨b, hb, h⟩)))))
theorem zHc_ok {ty : List Nat} {z : zH} (T : zTY z_tt ty z) (X : zExt zty1 ty) (S : zSkl z) (h0 : zHc0 z = true) {b : Nat} (hb : b ∈ zHbs) : hH (za z) b zA0 := by
  have h := List.all_eq_true.mp h0 b hb
  have ht := of_decide_eq_true (List.all_eq_true.mp zHbs_t b hb)
  rw [Bool.and_eq_true] at h
  obtain ⟨h1, h2⟩ := h
  unfold zHc1 at h1
  unfold zHc2 at h2
  simp only [Bool.and_eq_true] at h1 h2
  obtain ⟨a1, a2, a3, a4, a5, a6, a7, a8, a9, a10⟩ := h1
  obtain ⟨c1, c2, c3, c4⟩ := h2
  refine ⟨fun c j d hk => zHsk_in S hb ?_, fun k c j hp => ?_, ⟨_, zIsI_ok c1, fun t ht => ?_⟩, ⟨0, by omega, zIsI_ok c2, fun i j hi hj => ?_⟩, Or.inl ⟨zIsN_ok c4, by decide +kernel⟩, zvl_of T (X _ _ ht.1) rfl rfl, zvl_of T (X _ _ ht.2) rfl rfl⟩
  · unfold hKr at hk
    unfold zHsk
    rcases hk with ⟨rfl, ⟨rfl, rfl⟩ | ⟨rfl, rfl⟩ | ⟨rfl, rfl⟩ | ⟨rfl, rfl⟩ | ⟨rfl, rfl⟩⟩ | ⟨rfl, hj, rfl⟩ | ⟨rfl, hj, rfl⟩ | ⟨rfl, rfl, rfl⟩
    · simp
    · simp
    · simp
    · simp
    · simp
    · match j, hj with
      | 0, _ => simp
      | 1, _ => simp
      | 2, _ => simp
      | 3, _ => simp
    · match j, hj with
      | 0, _ => simp
      | 1, _ => simp
    · simp
  · show zv z c j = _
    unfold hPr at hp
    rcases hp with ⟨rfl, rfl, rfl⟩ | ⟨rfl, rfl, rfl⟩ | ⟨rfl, rfl, rfl⟩ | ⟨k1, k2, rfl, rfl⟩ | ⟨rfl, rfl, rfl⟩ | ⟨rfl, rfl, rfl⟩ | ⟨k1, k2, rfl, k3⟩ | ⟨k1, k2, k3, k4⟩ | ⟨k1, rfl, rfl⟩ | ⟨k1, rfl, rfl⟩
    · exact zIsI_ok a1
    · exact zIsI_ok a2
    · exact zIsI_ok a3
    · have := zIsI_ok (zrall a4 (k := k - 4) (by omega))
      rw [show k - 4 + 7 = k + 3 by omega, show k - 4 + 4 = k by omega] at this
      exact this
    · exact zIsI_ok a5
    · exact zIsI_ok a6
    · have := zIsI_ok (zrall a7 (k := j) (by omega))
      rw [show 16 + j = k by omega] at this
      exact this
    · have := zIsI_ok (zrall a8 (k := k - 40) (by omega))
      rw [show b + 3 + (k - 40) % 4 = c by omega, show (k - 40) / 4 = j by omega, show 40 + (k - 40) = k by omega] at this
      exact this
    · exact zIsI_ok (zrall a9 (k := j) k1)
    · exact zIsI_ok (zrall a10 (k := j) k1)
  · rw [btb_0]
    exact of_decide_eq_true (zrall zA0_a ht)
  · have e := of_decide_eq_true (zrall zA0_b (k := 5 * i + j) (by omega))
    rw [show 88 + (5 * i + j) = 88 + 5 * i + j by omega] at e
    rw [e]
    exact zIsI_ok (zrall c3 (by omega))
theorem zHld_at {ty : List Nat} {z : zH} (T : zTY z_tt ty z) (X : zExt zty1 ty) (S : zSkl z) (h0 : zHc0 z = true) (h3 : zHc3 z = true) (hl : z.length = 219) : zHld (za z) := by
  unfold zHc3 at h3
  simp only [Bool.and_eq_true] at h3
  obtain ⟨a1, a2, a3, a4, a5, a6, a7, a8⟩ := h3
  have I : aI 0 0 zA0 := ⟨⟨rfl, by omega, rfl, by omega, fun t _ ht => of_decide_eq_true (zrall zA0_a ht)⟩, fun q hq => Or.inl (of_decide_eq_true (zrall zA0_c hq)), fun t ht => absurd ht (Nat.not_lt_zero t), by decide +kernel, by decide +kernel, ⟨0, by omega, rfl⟩, ⟨0, by omega, rfl⟩, ⟨0, by omega, rfl⟩⟩
  have H := fun {b : Nat} (hb : b ∈ zHbs) => zHc_ok T X S h0 hb
  have r := zHc0
  have n8 : (za z).1 8 5 = .null := by
    have q := List.all_eq_true.mp h0 8 (by decide)
    unfold zHc2 at q
    simp only [Bool.and_eq_true] at q
    exact zIsN_ok q.2.2.2.2
  have sk : ∀ q : Nat × Nat × Nat, zskl.elem q = true → (za z).1 q.1 q.2.1 = .ref q.2.2 := fun q hq => S.at q hq
  have hm : ∀ i, i < 12 → (48, i, 49 + 13 * i) ∈ zskl ∧ 49 + 13 * i ∈ zHbs := by decide +kernel
  refine ⟨(zA0, (0, 0), (0, fun _ => zA0), none, none, Int32.ofInt (-1)), ⟨I, by decide +kernel, Nat.zero_le _, fun i hi => absurd hi (Nat.not_lt_zero i), trivial⟩, ⟨⟨sk (0, 0, 1) (by decide +kernel), sk (0, 2, 8) (by decide +kernel), sk (0, 3, 21) (by decide +kernel), sk (0, 4, 34) (by decide +kernel), sk (0, 5, 47) (by decide +kernel)⟩, H (by decide), ⟨_, H (by decide)⟩, ⟨0, fun _ => zA0, ⟨sk (47, 0, 48) (by decide +kernel), fun i hi => S _ (hm i hi).1, zIsI_ok a1, by omega, zIsI_ok a2, Nat.zero_le _, fun i hi => H (hm i hi).2⟩, fun i hi => absurd hi (Nat.not_lt_zero i)⟩, n8, trivial, ⟨zIsI_ok a3, _, H (by decide)⟩, zIsI_ok a4, by show 219 ≤ z.length; omega, by show z.length % 6 = 3; rw [hl]⟩, ⟨⟨sk (205, 1, 206) (by decide +kernel), sk (205, 2, 207) (by decide +kernel), sk (205, 3, 208) (by decide +kernel), sk (205, 4, 209) (by decide +kernel), sk (205, 5, 210) (by decide +kernel)⟩, sk (205, 17, 213) (by decide +kernel), ⟨sk (205, 1, 206) (by decide +kernel), fun k hk => zIsI_ok (zrall a8 hk)⟩, rfl, zIsI_ok a5, fun i hi => absurd hi (Nat.not_lt_zero i), zIsI_ok a6, zIsI_ok a7⟩⟩
theorem zLwt_0 : zLwt zty0 := fun c t h1 h2 ht => by
  rw [List.getElem?_eq_none (by rw [show zty0.length = 219 from by decide +kernel]; exact h1)] at ht
  cases ht
theorem zHld_0 (T : zTY z_tt zty0 zih) : zHld (za zih) := zHld_at T (by rw [zty0_1]; exact zExt.rf) zSkl_0 zih_h0 zih_h3 (by rw [← T.1]; decide +kernel)
end
section
/-! the start of the loop; printed with wip/gen/gen_once.py -/
theorem zTY_0 {z : zH} (h : zHb zty0 zty0 z = true) : zTY z_tt zty0 z := by
  obtain ⟨k1, k2⟩ := zHb_ok h
  refine ⟨k1, ?_, fun a t e ht he => zCb_ok (k2 a t e ht he)⟩
  rw [← k1, show zty0.length = 219 from by decide +kernel]
  show 219 ≤ 1048576
  omega
theorem zE1_0 {z : zH} (h : zLb zty0 z = true) : zE1 zty0 z := by
  have U := List.all_eq_true.mp zty0_u
  have hu : ∀ a t : Nat, 20 ≤ t → t ≤ 32 → zty0[a]? = some t → a = t + 185 := fun a t h1 h2 ha => by
    have := U a (List.mem_range.mpr (List.getElem?_eq_some_iff.mp ha).1)
    rw [ha] at this
    dsimp only at this
    rw [Bool.or_eq_true, Bool.or_eq_true, decide_eq_true_eq, decide_eq_true_eq, decide_eq_true_eq] at this
    omega
  refine ⟨fun a b t h1 h2 ha hb => by rw [hu a t h1 h2 ha, hu b t h1 h2 hb], fun a t n f ht hz he => ?_⟩
  have L := List.all_eq_true.mp h a (List.mem_range.mpr (List.getElem?_eq_some_iff.mp ht).1)
  rw [ht, he] at L
  have L : (decide (t ≠ 21 ∧ t ≠ 22 ∧ t ≠ 23) || decide ((f 388).toInt = 0)) = true := L
  rw [Bool.or_eq_true, decide_eq_true_eq, decide_eq_true_eq] at L
  have h0 : (f 388).toInt = 0 := by
    rcases L with L | L
    · rcases hz with rfl | rfl | rfl <;> omega
    · exact L
  exact ⟨by omega, fun l hl => absurd hl (by omega)⟩
theorem zTp_0 {z : zH} (h : zih_t z = true) : zTp zty0 z 0 0 := by
  unfold zih_t at h
  split at h
  case h_2 => cases h
  next e1 h1 =>
  split at h
  case h_2 => cases h
  next t h2 =>
  split at h
  case h_2 => cases h
  next e2 h3 h4 =>
  split at h
  case h_2 => cases h
  next x h5 =>
  exact ⟨e1, e2, t, x, h1, h2, h3, h4, h5, of_decide_eq_true h⟩
theorem zMp_0 {z : zH} (h : zih_m z = true) : zMp z 205 0 := by
  unfold zih_m at h
  split at h
  case h_2 => cases h
  next e1 h1 =>
  split at h
  case h_2 => cases h
  next x h2 =>
  exact ⟨e1, x, h1, h2, of_decide_eq_true h⟩
theorem zIw_0 : zIw zty0 zih 0 205 218 0 :=
  ⟨zTY_0 zih_ty, zE1_0 zih_l, by decide +kernel, by decide +kernel, by decide +kernel, zTp_0 zih_t_ok, zMp_0 zih_m_ok, by decide, by decide, zLxt_0 (zTY_0 zih_ty), zLwt_0, zHld_0 (zTY_0 zih_ty)⟩
end
section
/-! the start of the loop, and the goal; printed with wip/gen/gen_init.py -/
set_option maxRecDepth 100000 in
theorem z_goal0 (H : ∀ (c : Nat) (c' : zCt), zCtl[c]? = some c' → zVd z_tt zE1 c') (sx : zX) (hL : sx.1 ≤ 3072) : z_ok sx 100 343 0 [(0, .ref zS)] [] [] (fun o _ x y => o = .inl (some (.int 1)) ∧ x ≤ 601024 ∧ y ≤ 7293034) := by
  obtain ⟨h1, x1, y1, e1, l1, bx1, by1⟩ := zend_ok zi1_ok
  obtain ⟨h2, x2, y2, e2, l2, bx2, by2⟩ := zend_ok zi2_ok
  have eh1 : zi1h = h1 := congrArg zhp e1
  have eh2 : zi2h = h2 := congrArg zhp e2
  have r1 : z_run sx 7000 99 117 0 [(0, .ref 0)] [] [.inr (8, z_df.getD 8 [])] = some (.inl none, h1, x1, y1) := zrun_sx _ sx 7000 99 117 0 _ _ _ _ (by omega) ((z_runF_eq _ _ _ _ _ _ _).symm.trans e1)
  have r2 : z_run sx 2000 99 179 0 [(0, .ref 205)] [] (h1 ++ [.inr (9, z_df.getD 9 [])]) = some (.inl none, h2, x2, y2) := by
    have e2' : z_run (0, fun _ => 0) 2000 99 179 0 [(0, .ref 205)] [] (zi1h ++ [.inr (9, z_df.getD 9 [])]) = some (.inl none, h2, x2, y2) := (z_runF_eq _ _ _ _ _ _ _).symm.trans e2
    rw [eh1] at e2'
    exact zrun_sx _ sx 2000 99 179 0 _ _ _ _ (by omega) e2'
  refine zha zJ_343 (i := (49, 8, 0, 0)) rfl rfl (k' := 1) (lo' := [(0, .ref zS)]) (st' := [.ref 0]) (h' := [.inr (8, z_df.getD 8 [])]) (x := 1) (y := 8) (by
    show zo_new sx 100 8 0 0 0 _ [] [] = _
    unfold zo_new
    rw [if_pos (by show 0 < 1048576; omega)]
    rfl) ?_
  refine zh zJ_343 (i := (27, 0, 0, 0)) rfl rfl (k' := 2) (lo' := [(0, .ref zS)]) (st' := [.ref 0, .ref 0]) (h' := [.inr (8, z_df.getD 8 [])]) rfl ?_
  refine z_ok.call zJ_343.1 zJ_343.2.1 zJ_343.2.2 (i := (56, 117, 0, 0)) rfl (z_fin_no (by decide)) (zcal56 (xs := []) (rest := [.ref 0]) (by omega) rfl rfl (Nat.le_of_ble_eq_true rfl) (M' := z_m117) rfl (Nat.le_of_ble_eq_true rfl)) ⟨7000, _, _, _, _, r1, ?_⟩
  show z_ok sx 100 343 3 [(0, .ref zS)] [.ref 0] h1 _
  refine zh zJ_343 (i := (5, 1, 0, 0)) rfl rfl (k' := 4) (lo' := [(1, .ref 0), (0, .ref zS)]) (st' := []) (h' := h1) rfl ?_
  refine zha zJ_343 (i := (49, 9, 0, 0)) rfl rfl (k' := 5) (lo' := [(1, .ref 0), (0, .ref zS)]) (st' := [.ref 205]) (h' := h1 ++ [.inr (9, z_df.getD 9 [])]) (x := 1) (y := 23) (by
    show zo_new sx 100 9 0 0 4 _ [] h1 = _
    unfold zo_new
    rw [if_pos (by rw [l1]; show 205 < 1048576; omega), l1]
    rfl) ?_
  refine zh zJ_343 (i := (27, 0, 0, 0)) rfl rfl (k' := 6) (lo' := [(1, .ref 0), (0, .ref zS)]) (st' := [.ref 205, .ref 205]) (h' := h1 ++ [.inr (9, z_df.getD 9 [])]) rfl ?_
  refine z_ok.call zJ_343.1 zJ_343.2.1 zJ_343.2.2 (i := (56, 179, 0, 0)) rfl (z_fin_no (by decide)) (zcal56 (xs := []) (rest := [.ref 205]) (by omega) rfl rfl (Nat.le_of_ble_eq_true rfl) (M' := z_m179) rfl (Nat.le_of_ble_eq_true rfl)) ⟨2000, _, _, _, _, r2, ?_⟩
  show z_ok sx 100 343 7 [(1, .ref 0), (0, .ref zS)] [.ref 205] h2 _
  refine zh zJ_343 (i := (5, 2, 0, 0)) rfl rfl (k' := 8) (lo' := [(2, .ref 205), (1, .ref 0), (0, .ref zS)]) (st' := []) (h' := h2) rfl ?_
  refine zh zJ_343 (i := (0, 0, 0, 1)) rfl rfl (k' := 9) (lo' := [(2, .ref 205), (1, .ref 0), (0, .ref zS)]) (st' := [.int (Int32.ofInt (1))]) (h' := h2) rfl ?_
  have ez : zih = h2 ++ [.inl (2, (1, .inr (.inl (fun _ => 0))))] := by unfold zih; rw [eh2]
  refine zha zJ_343 (i := (47, 2, 0, 0)) rfl rfl (k' := 10) (lo' := [(2, .ref 205), (1, .ref 0), (0, .ref zS)]) (st' := [.ref 218]) (h' := zih) (x := 1) (y := 1) (by
    show zo_newa sx 100 2 0 0 9 _ [.int (Int32.ofInt (1))] h2 = _
    unfold zo_newa
    dsimp only
    rw [if_pos ⟨by decide, by decide, by rw [l2]; show 218 < 1048576; omega, by decide⟩, l2, ez]
    rfl) ?_
  refine zh zJ_343 (i := (5, 3, 0, 0)) rfl rfl (k' := 11) (lo' := [(3, .ref 218), (2, .ref 205), (1, .ref 0), (0, .ref zS)]) (st' := []) (h' := zih) rfl ?_
  refine zh zJ_343 (i := (0, 0, 0, 0)) rfl rfl (k' := 12) (lo' := [(3, .ref 218), (2, .ref 205), (1, .ref 0), (0, .ref zS)]) (st' := [.int (Int32.ofInt (0))]) (h' := zih) rfl ?_
  refine zh zJ_343 (i := (4, 4, 0, 0)) rfl rfl (k' := 13) (lo' := [(4, .int (Int32.ofInt (0))), (3, .ref 218), (2, .ref 205), (1, .ref 0), (0, .ref zS)]) (st' := []) (h' := zih) rfl ?_
  have lz : zih.length = 219 := by rw [ez, List.length_append, l2]; rfl
  refine z_ok.imp (zLp_343 (ax := 0) (am := 205) (ao := 218) H (by omega) hL 512 0 zty0 _ zih 0 (by omega) (by omega) (by rw [lz]; show 219 + 7 * 512 ≤ 1048576; omega) zIw_0 ⟨rfl, rfl, rfl, rfl, _, rfl, rfl⟩) (fun o h9 a b q => ?_)
  obtain ⟨q1, q2, q3⟩ := q
  refine ⟨q1, ?_, ?_⟩
  · show a + 1 + x2 + 1 + x1 + 1 ≤ 601024
    omega
  · show b + 1 + y2 + 23 + y1 + 8 ≤ 7293034
    omega
end
