/-! the two constructors, by the kernel: what it says; printed with wip/gen/gen_init.py -/
def zty0 : List Nat := [1, 2, 3, 4, 5, 5, 6, 7, 8, 16, 9, 10, 10, 10, 10, 11, 12, 12, 13, 14, 12, 8, 16, 9, 10, 10, 10, 10, 11, 12, 12, 13, 14, 12, 8, 16, 9, 10, 10, 10, 10, 11, 12, 12, 13, 14, 12, 17, 18, 8, 16, 9, 10, 10, 10, 10, 11, 12, 12, 13, 14, 12, 8, 16, 9, 10, 10, 10, 10, 11, 12, 12, 13, 14, 12, 8, 16, 9, 10, 10, 10, 10, 11, 12, 12, 13, 14, 12, 8, 16, 9, 10, 10, 10, 10, 11, 12, 12, 13, 14, 12, 8, 16, 9, 10, 10, 10, 10, 11, 12, 12, 13, 14, 12, 8, 16, 9, 10, 10, 10, 10, 11, 12, 12, 13, 14, 12, 8, 16, 9, 10, 10, 10, 10, 11, 12, 12, 13, 14, 12, 8, 16, 9, 10, 10, 10, 10, 11, 12, 12, 13, 14, 12, 8, 16, 9, 10, 10, 10, 10, 11, 12, 12, 13, 14, 12, 8, 16, 9, 10, 10, 10, 10, 11, 12, 12, 13, 14, 12, 8, 16, 9, 10, 10, 10, 10, 11, 12, 12, 13, 14, 12, 8, 16, 9, 10, 10, 10, 10, 11, 12, 12, 13, 14, 12, 20, 21, 22, 23, 24, 25, 26, 27, 28, 29, 30, 31, 32, 33]
def zi1 : Option zRes := z_run (0, fun _ => 0) 7000 99 117 0 [(0, .ref 0)] [] [.inr (8, z_df.getD 8 [])]
def zi1h : zH := match zi1 with | some r => r.2.1 | none => []
def zi2 : Option zRes := z_run (0, fun _ => 0) 2000 99 179 0 [(0, .ref 205)] [] (zi1h ++ [.inr (9, z_df.getD 9 [])])
def zi2h : zH := match zi2 with | some r => r.2.1 | none => []
def zih : zH := zi2h ++ [.inl (2, (1, .inr (.inl (fun _ => 0))))]
def zend (r : Option zRes) (n : Nat) : Bool := match r with
  | some (.inl none, h, x, y) => decide (h.length = n) && (decide (x ≤ 1000) && decide (y ≤ 100000))
  | _ => false
theorem zi1_ok : zend zi1 205 = true := by decide +kernel
theorem zi2_ok : zend zi2 218 = true := by decide +kernel
theorem zih_ty : zHb zty0 zty0 zih = true := by decide +kernel
theorem zih_l : zLb zty0 zih = true := by decide +kernel
theorem zty0_u : zUb zty0 = true := by decide +kernel
def zih_t : Bool := match zih[0]? with
  | some e1 => (match z_rd e1 0 with
    | some (.ref t) => (match zty0[t]?, zih[t]? with
      | some 2, some e2 => (match z_rd e2 1 with | some (.int x) => decide (x.toInt = 0) | _ => false)
      | _, _ => false)
    | _ => false)
  | none => false
def zih_m : Bool := match zih[205]? with
  | some e1 => (match z_rd e1 9 with | some (.int x) => decide (x.toInt = 0) | _ => false)
  | none => false
theorem zih_t_ok : zih_t = true := by decide +kernel
theorem zih_m_ok : zih_m = true := by decide +kernel
theorem zend_ok {r : Option zRes} {n : Nat} (h : zend r n = true) : ∃ h' x y, r = some (.inl none, h', x, y) ∧ h'.length = n ∧ x ≤ 1000 ∧ y ≤ 100000 := by
  unfold zend at h
  split at h
  · next h' x y =>
    rw [Bool.and_eq_true, Bool.and_eq_true, decide_eq_true_eq, decide_eq_true_eq, decide_eq_true_eq] at h
    exact ⟨h', x, y, rfl, h⟩
  · cases h
def zih_s : Bool := zskl.all (fun q => match zv zih q.1 q.2.1 with | .ref r => decide (r = q.2.2) | _ => false)
theorem zih_s_ok : zih_s = true := by decide +kernel
