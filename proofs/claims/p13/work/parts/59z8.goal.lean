/-! the start of the loop, and the goal; printed with wip/gen/gen_init.py -/
set_option maxRecDepth 100000 in
theorem z_goal0 (H : ∀ (c : Nat) (c' : zCt), zCtl[c]? = some c' → zVd z_tt zE1 c') (sx : zX) (hL : sx.1 ≤ 3072) : z_ok sx 100 343 0 [(0, .ref zS)] [] [] (fun o _ x y => o = .inl (some (.int 1)) ∧ x ≤ 601024 ∧ y ≤ 7293034) := by
  obtain ⟨h1, x1, y1, e1, l1, bx1, by1⟩ := zend_ok zi1_ok
  obtain ⟨h2, x2, y2, e2, l2, bx2, by2⟩ := zend_ok zi2_ok
  have eh1 : zi1h = h1 := by unfold zi1h; rw [e1]
  have eh2 : zi2h = h2 := by unfold zi2h; rw [e2]
  have r1 : z_run sx 7000 99 117 0 [(0, .ref 0)] [] [.inr (8, z_df.getD 8 [])] = some (.inl none, h1, x1, y1) := zrun_sx _ sx 7000 99 117 0 _ _ _ _ (by omega) e1
  have r2 : z_run sx 2000 99 179 0 [(0, .ref 205)] [] (h1 ++ [.inr (9, z_df.getD 9 [])]) = some (.inl none, h2, x2, y2) := by
    have e2' : z_run (0, fun _ => 0) 2000 99 179 0 [(0, .ref 205)] [] (zi1h ++ [.inr (9, z_df.getD 9 [])]) = some (.inl none, h2, x2, y2) := e2
    rw [eh1] at e2'
    exact zrun_sx _ sx 2000 99 179 0 _ _ _ _ (by omega) e2'
  refine zha zJ_343 (i := (49, 8, 0, 0)) rfl rfl (k' := 1) (lo' := [(0, .ref zS)]) (st' := [.ref 0]) (h' := [.inr (8, z_df.getD 8 [])]) (x := 1) (y := 8) (by
    show zo_new sx 100 8 0 0 0 _ [] [] = _
    unfold zo_new
    rw [if_pos (by show 0 < 1048576; omega)]
    rfl) ?_
  refine zh zJ_343 (i := (27, 0, 0, 0)) rfl rfl (k' := 2) (lo' := [(0, .ref zS)]) (st' := [.ref 0, .ref 0]) (h' := [.inr (8, z_df.getD 8 [])]) rfl ?_
  refine z_ok.call zJ_343.1 zJ_343.2.1 zJ_343.2.2 (i := (56, 117, 0, 0)) rfl (z_fin_no (by decide)) (zcal56 (xs := []) (rest := [.ref 0]) (by omega) rfl rfl (Nat.le_of_ble_eq_true rfl) (M' := z_m117) rfl (Nat.le_of_ble_eq_true rfl)) ⟨7000, _, _, _, _, r1, ?_⟩
  show z_ok sx 100 343 3 [(0, .ref zS)] [.ref 0] h1 _
  refine zh zJ_343 (i := (5, 1, 0, 0)) rfl rfl (k' := 4) (lo' := [(1, .ref 0), (0, .ref zS)]) (st' := []) (h' := h1) rfl ?_
  refine zha zJ_343 (i := (49, 9, 0, 0)) rfl rfl (k' := 5) (lo' := [(1, .ref 0), (0, .ref zS)]) (st' := [.ref 205]) (h' := h1 ++ [.inr (9, z_df.getD 9 [])]) (x := 1) (y := 23) (by
    show zo_new sx 100 9 0 0 4 _ [] h1 = _
    unfold zo_new
    rw [if_pos (by rw [l1]; show 205 < 1048576; omega), l1]
    rfl) ?_
  refine zh zJ_343 (i := (27, 0, 0, 0)) rfl rfl (k' := 6) (lo' := [(1, .ref 0), (0, .ref zS)]) (st' := [.ref 205, .ref 205]) (h' := h1 ++ [.inr (9, z_df.getD 9 [])]) rfl ?_
  refine z_ok.call zJ_343.1 zJ_343.2.1 zJ_343.2.2 (i := (56, 179, 0, 0)) rfl (z_fin_no (by decide)) (zcal56 (xs := []) (rest := [.ref 205]) (by omega) rfl rfl (Nat.le_of_ble_eq_true rfl) (M' := z_m179) rfl (Nat.le_of_ble_eq_true rfl)) ⟨2000, _, _, _, _, r2, ?_⟩
  show z_ok sx 100 343 7 [(1, .ref 0), (0, .ref zS)] [.ref 205] h2 _
  refine zh zJ_343 (i := (5, 2, 0, 0)) rfl rfl (k' := 8) (lo' := [(2, .ref 205), (1, .ref 0), (0, .ref zS)]) (st' := []) (h' := h2) rfl ?_
  refine zh zJ_343 (i := (0, 0, 0, 1)) rfl rfl (k' := 9) (lo' := [(2, .ref 205), (1, .ref 0), (0, .ref zS)]) (st' := [.int (Int32.ofInt (1))]) (h' := h2) rfl ?_
  have ez : zih = h2 ++ [.inl (2, (1, .inr (.inl (fun _ => 0))))] := by unfold zih; rw [eh2]
  refine zha zJ_343 (i := (47, 2, 0, 0)) rfl rfl (k' := 10) (lo' := [(2, .ref 205), (1, .ref 0), (0, .ref zS)]) (st' := [.ref 218]) (h' := zih) (x := 1) (y := 1) (by
    show zo_newa sx 100 2 0 0 9 _ [.int (Int32.ofInt (1))] h2 = _
    unfold zo_newa
    dsimp only
    rw [if_pos ⟨by decide, by decide, by rw [l2]; show 218 < 1048576; omega, by decide⟩, l2, ez]
    rfl) ?_
  refine zh zJ_343 (i := (5, 3, 0, 0)) rfl rfl (k' := 11) (lo' := [(3, .ref 218), (2, .ref 205), (1, .ref 0), (0, .ref zS)]) (st' := []) (h' := zih) rfl ?_
  refine zh zJ_343 (i := (0, 0, 0, 0)) rfl rfl (k' := 12) (lo' := [(3, .ref 218), (2, .ref 205), (1, .ref 0), (0, .ref zS)]) (st' := [.int (Int32.ofInt (0))]) (h' := zih) rfl ?_
  refine zh zJ_343 (i := (4, 4, 0, 0)) rfl rfl (k' := 13) (lo' := [(4, .int (Int32.ofInt (0))), (3, .ref 218), (2, .ref 205), (1, .ref 0), (0, .ref zS)]) (st' := []) (h' := zih) rfl ?_
  have lz : zih.length = 219 := by rw [ez, List.length_append, l2]; rfl
  refine z_ok.imp (zLp_343 (ax := 0) (am := 205) (ao := 218) H (by omega) hL 512 0 zty0 _ zih 0 (by omega) (by omega) (by rw [lz]; show 219 + 7 * 512 ≤ 1048576; omega) zIw_0 ⟨rfl, rfl, rfl, rfl, _, rfl, rfl⟩) (fun o h9 a b q => ?_)
  obtain ⟨q1, q2, q3⟩ := q
  refine ⟨q1, ?_, ?_⟩
  · show a + 1 + x2 + 1 + x1 + 1 ≤ 601024
    omega
  · show b + 1 + y2 + 23 + y1 + 8 ≤ 7293034
    omega
