theorem z_ckB50 {M : zMi} {is : List zJ} {hs : List zHd} {i : zI} {q : zJ} {k : Nat} (h : i.1 = 50) : z_ckB M is hs i q k = (match q.2.1 with | .ireturn => decide (q.2.2.1 = 1) | _ => false) := by
  unfold z_ckB
  rw [h]
  all_goals rfl
theorem z_ckB51 {M : zMi} {is : List zJ} {hs : List zHd} {i : zI} {q : zJ} {k : Nat} (h : i.1 = 51) : z_ckB M is hs i q k = (match q.2.1 with | .lreturn => decide (q.2.2.1 = 1) && decide (M.2.2.2.2.1 = some .long) | _ => false) := by
  unfold z_ckB
  rw [h]
  all_goals rfl
theorem z_ckB52 {M : zMi} {is : List zJ} {hs : List zHd} {i : zI} {q : zJ} {k : Nat} (h : i.1 = 52) : z_ckB M is hs i q k = (match q.2.1 with | .areturn => decide (q.2.2.1 = 1) && (match M.2.2.2.2.1 with | some (.object _) => true | some (.array _) => true | _ => false) | _ => false) := by
  unfold z_ckB
  rw [h]
  all_goals rfl
theorem z_ckB53 {M : zMi} {is : List zJ} {hs : List zHd} {i : zI} {q : zJ} {k : Nat} (h : i.1 = 53) : z_ckB M is hs i q k = (match q.2.1 with | .return_ => decide (q.2.2.1 = 1) && decide (M.2.2.2.2.1 = none) | _ => false) := by
  unfold z_ckB
  rw [h]
  all_goals rfl
theorem z_ckB62 {M : zMi} {is : List zJ} {hs : List zHd} {i : zI} {q : zJ} {k : Nat} (h : i.1 = 62) : z_ckB M is hs i q k = (match q.2.1, z_excs[i.2.1]?, z_ics[i.2.1]?, z_strs[i.2.2.1]? with
    | .new ik, some cls, some ic, some sq => decide (M.1 = RX11) && decide (hs = []) && decide (q.2.2.1 = 3) && z_w (.classLink M.1 ik cls) (q.2.2.2.getD 0 0) && z_w (.initialized cls) (q.2.2.2.getD 1 0) && decide (sq.1 = M.1) && decide (decode M.2.2.1 (q.1 + 3) = .ok (.dup, 1)) && ((decide (decode M.2.2.1 (q.1 + 4) = .ok (.ldc sq.2.1, 2)) && decide (decode M.2.2.1 (q.1 + 6) = .ok (.invokespecial ic, 3)) && decide (decode M.2.2.1 (q.1 + 9) = .ok (.athrow, 1))) || (decide (decode M.2.2.1 (q.1 + 4) = .ok (.ldc_w sq.2.1, 3)) && decide (decode M.2.2.1 (q.1 + 7) = .ok (.invokespecial ic, 3)) && decide (decode M.2.2.1 (q.1 + 10) = .ok (.athrow, 1))))
    | _, _, _, _ => false) := by
  unfold z_ckB
  rw [h]
  all_goals rfl
theorem z_ckB54 {M : zMi} {is : List zJ} {hs : List zHd} {i : zI} {q : zJ} {k : Nat} (h : i.1 = 54) : z_ckB M is hs i q k = (match q.2.1, z_ms[i.2.1]? with
    | .invokevirtual idx, some M' => decide (q.2.2.1 = 3) && decide (z_nxOf is (k + 1) = q.1 + 3) && decide (M'.2.2.2.2.2 = []) && decide (M'.2.1.cls = M'.1) && decide ((vwCl[i.2.2.2.toNat]?).map (fun x => x.1) = some M'.1) && decide (0 ≤ i.2.2.2) && z_w (.methodLink M.1 idx M'.2.1) (q.2.2.2.getD 0 0) && z_w (.instanceMethod M'.2.1) (q.2.2.2.getD 1 0) && z_w (.selects M'.1 M'.2.1 M'.2.1) (q.2.2.2.getD 2 0) && z_w (.initialized M'.1) (q.2.2.2.getD 3 0) && z_w (.code M'.2.1 M'.2.2.1 M'.2.2.2.1 M'.2.2.2.2.1) (q.2.2.2.getD 4 0) && z_yok M'.2.1 i.2.2.1 && decide (M'.2.2.2.1 ≤ 41) && hs.all (fun x => decide (x.1 ≤ q.1) && decide (q.1 < x.2.1))
    | _, _ => false) := by
  unfold z_ckB
  rw [h]
  all_goals rfl
theorem z_ckB55 {M : zMi} {is : List zJ} {hs : List zHd} {i : zI} {q : zJ} {k : Nat} (h : i.1 = 55) : z_ckB M is hs i q k = (match q.2.1, z_ms[i.2.1]? with
    | .invokestatic idx, some M' => decide (q.2.2.1 = 3) && decide (z_nxOf is (k + 1) = q.1 + 3) && decide (M'.2.2.2.2.2 = []) && decide (M'.2.1.cls = M'.1) && z_w (.methodLink M.1 idx M'.2.1) (q.2.2.2.getD 0 0) && z_w (.static M'.2.1) (q.2.2.2.getD 1 0) && z_w (.initialized M'.1) (q.2.2.2.getD 2 0) && z_w (.code M'.2.1 M'.2.2.1 M'.2.2.2.1 M'.2.2.2.2.1) (q.2.2.2.getD 3 0) && z_yok M'.2.1 i.2.2.1 && decide (M'.2.2.2.1 ≤ 41)
    | _, _ => false) := by
  unfold z_ckB
  rw [h]
  all_goals rfl
theorem z_ckB72 {M : zMi} {is : List zJ} {hs : List zHd} {i : zI} {q : zJ} {k : Nat} (h : i.1 = 72) : z_ckB M is hs i q k = (match q.2.1, z_ms[i.2.1]? with
    | .invokestatic idx, some M' => decide (q.2.2.1 = 3) && decide (z_nxOf is (k + 1) = q.1 + 3) && !decide (M'.2.2.2.2.2 = []) && decide (M'.2.1.cls = M'.1) && z_w (.methodLink M.1 idx M'.2.1) (q.2.2.2.getD 0 0) && z_w (.static M'.2.1) (q.2.2.2.getD 1 0) && z_w (.initialized M'.1) (q.2.2.2.getD 2 0) && z_w (.codeWith M'.2.1 M'.2.2.1 M'.2.2.2.1 M'.2.2.2.2.1 M'.2.2.2.2.2) (q.2.2.2.getD 3 0) && z_yok M'.2.1 i.2.2.1 && decide (M'.2.2.2.1 ≤ 41)
    | _, _ => false) := by
  unfold z_ckB
  rw [h]
  all_goals rfl
theorem z_ckB56 {M : zMi} {is : List zJ} {hs : List zHd} {i : zI} {q : zJ} {k : Nat} (h : i.1 = 56) : z_ckB M is hs i q k = (match q.2.1, z_ms[i.2.1]? with
    | .invokespecial idx, some M' => decide (q.2.2.1 = 3) && decide (z_nxOf is (k + 1) = q.1 + 3) && decide (M'.2.2.2.2.2 = []) && decide (M'.2.1.cls = M'.1) && decide (M'.2.1.name = "<init>") && decide (M'.2.2.2.2.1 = none) && z_w (.methodLink M.1 idx M'.2.1) (q.2.2.2.getD 0 0) && z_w (.instanceMethod M'.2.1) (q.2.2.2.getD 1 0) && z_w (.initialized M'.1) (q.2.2.2.getD 2 0) && z_w (.code M'.2.1 M'.2.2.1 M'.2.2.2.1 none) (q.2.2.2.getD 3 0) && z_yok M'.2.1 i.2.2.1 && decide (M'.2.2.2.1 ≤ 41)
    | _, _ => false) := by
  unfold z_ckB
  rw [h]
  all_goals rfl
theorem z_ckB73 {M : zMi} {is : List zJ} {hs : List zHd} {i : zI} {q : zJ} {k : Nat} (h : i.1 = 73) : z_ckB M is hs i q k = (match q.2.1, z_ms[i.2.1]? with
    | .invokespecial idx, some M' => decide (q.2.2.1 = 3) && decide (z_nxOf is (k + 1) = q.1 + 3) && decide (M'.2.2.2.2.2 = []) && decide (M'.2.1.cls = M'.1) && decide (M'.2.1.name = "<init>") && decide (M'.2.2.2.2.1 = none) && decide (Cond.methodLinkNest M.1 idx M'.2.1 RX11 ∈ z_nest) && z_w (.instanceMethod M'.2.1) (q.2.2.2.getD 0 0) && z_w (.initialized M'.1) (q.2.2.2.getD 1 0) && z_w (.code M'.2.1 M'.2.2.1 M'.2.2.2.1 none) (q.2.2.2.getD 2 0) && z_yok M'.2.1 i.2.2.1 && decide (M'.2.2.2.1 ≤ 41)
    | _, _ => false) := by
  unfold z_ckB
  rw [h]
  all_goals rfl
