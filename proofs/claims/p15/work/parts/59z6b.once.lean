/-! the two constructors, run once by the kernel; printed with wip/gen/gen_once.py -/
noncomputable def zty0 : List Nat := [1, 2, 3, 4, 5, 5, 6, 7, 8, 16, 9, 10, 10, 10, 10, 11, 12, 12, 13, 14, 12, 8, 16, 9, 10, 10, 10, 10, 11, 12, 12, 13, 14, 12, 8, 16, 9, 10, 10, 10, 10, 11, 12, 12, 13, 14, 12, 17, 18, 8, 16, 9, 10, 10, 10, 10, 11, 12, 12, 13, 14, 12, 8, 16, 9, 10, 10, 10, 10, 11, 12, 12, 13, 14, 12, 8, 16, 9, 10, 10, 10, 10, 11, 12, 12, 13, 14, 12, 8, 16, 9, 10, 10, 10, 10, 11, 12, 12, 13, 14, 12, 8, 16, 9, 10, 10, 10, 10, 11, 12, 12, 13, 14, 12, 8, 16, 9, 10, 10, 10, 10, 11, 12, 12, 13, 14, 12, 8, 16, 9, 10, 10, 10, 10, 11, 12, 12, 13, 14, 12, 8, 16, 9, 10, 10, 10, 10, 11, 12, 12, 13, 14, 12, 8, 16, 9, 10, 10, 10, 10, 11, 12, 12, 13, 14, 12, 8, 16, 9, 10, 10, 10, 10, 11, 12, 12, 13, 14, 12, 8, 16, 9, 10, 10, 10, 10, 11, 12, 12, 13, 14, 12, 8, 16, 9, 10, 10, 10, 10, 11, 12, 12, 13, 14, 12, 20, 21, 22, 23, 24, 25, 26, 27, 28, 29, 30, 31, 32, 33]
noncomputable def zi1 : Option zRes := z_runF (0, fun _ => 0) 7000 99 117 0 [(0, .ref 0)] [] [.inr (8, z_df.getD 8 [])]
noncomputable def zhp (r : Option zRes) : zH := match r with | some r => r.2.1 | none => []
noncomputable def zi1h : zH := zhp zi1
noncomputable def zi2 : Option zRes := z_runF (0, fun _ => 0) 2000 99 179 0 [(0, .ref 205)] [] (zi1h ++ [.inr (9, z_df.getD 9 [])])
noncomputable def zi2h : zH := zhp zi2
noncomputable def zih : zH := zi2h ++ [.inl (2, (1, .inr (.inl (fun _ => 0))))]
noncomputable def zend (r : Option zRes) (n : Nat) : Bool := match r with
  | some (.inl none, h, x, y) => decide (h.length = n) && (decide (x ≤ 1000) && decide (y ≤ 100000))
  | _ => false
noncomputable def zih_t (z : zH) : Bool := match z[0]? with
  | some e1 => (match z_rd e1 0 with
    | some (.ref t) => (match zty0[t]?, z[t]? with
      | some 2, some e2 => (match z_rd e2 1 with | some (.int x) => decide (x.toInt = 0) | _ => false)
      | _, _ => false)
    | _ => false)
  | none => false
noncomputable def zih_m (z : zH) : Bool := match z[205]? with
  | some e1 => (match z_rd e1 9 with | some (.int x) => decide (x.toInt = 0) | _ => false)
  | none => false
noncomputable def zih_s : Bool := zskl.all (fun q => match zv zih q.1 q.2.1 with | .ref r => decide (r = q.2.2) | _ => false)
noncomputable def zBb (z : zH) : Bool := match (z[2]? : Option zE), (z[211]? : Option zE) with
  | some (.inl (0, (n, .inl f))), some (.inl (1, (m, .inl g))) => decide (n = 400) && (decide (m = 400) && (List.range 400).all (fun k => decide ((f k).toInt = 0) && decide ((g k).toInt = 0)))
  | _, _ => false
noncomputable def zA0 (k : Nat) : Int32 := if (6 ≤ k ∧ k < 7) ∨ (12 ≤ k ∧ k < 13) then Int32.ofInt (10) else if (11 ≤ k ∧ k < 12) then Int32.ofInt (2) else if (10 ≤ k ∧ k < 11) ∨ (15 ≤ k ∧ k < 16) then Int32.ofInt (1) else if (9 ≤ k ∧ k < 10) ∨ (16 ≤ k ∧ k < 40) then Int32.ofInt (-1) else Int32.ofInt 0
noncomputable def zIsI (v : Value) (x : Int32) : Bool := match v with
  | .int y => decide (y = x)
  | _ => false
noncomputable def zIsN (v : Value) : Bool := match v with
  | .null => true
  | _ => false
noncomputable def zHc1 (z : zH) (b : Nat) : Bool := zIsI (zv z (b + 2) 4) (zA0 0) && (zIsI (zv z (b + 7) 3) (zA0 1) && (zIsI (zv z b 6) (zA0 2) && ((List.range 10).all (fun i => zIsI (zv z b (i + 7)) (zA0 (i + 4))) && (zIsI (zv z (b + 10) 2) (zA0 14) && (zIsI (zv z b 17) (zA0 15) && ((List.range 24).all (fun j => zIsI (zv z (b + 1) j) (zA0 (16 + j))) && ((List.range 24).all (fun m => zIsI (zv z (b + 3 + m % 4) (m / 4)) (zA0 (40 + m))) && ((List.range 8).all (fun j => zIsI (zv z (b + 8) j) (zA0 (64 + 3 * j))) && (List.range 8).all (fun j => zIsI (zv z (b + 9) j) (zA0 (65 + 3 * j)))))))))))
noncomputable def zHc2 (z : zH) (b : Nat) : Bool := zIsI (zv z (b + 7) 2) (Int32.ofInt 0) && (zIsI (zv z (b + 10) 1) (Int32.ofInt 0) && ((List.range 300).all (fun k => zIsI (zv z (b + 11) k) (Int32.ofInt 0)) && zIsN (zv z b 5)))
noncomputable def zHc0 (z : zH) : Bool := zHbs.all (fun b => zHc1 z b && zHc2 z b)
noncomputable def zHc3 (z : zH) : Bool := zIsI (zv z 47 1) (Int32.ofInt 0) && (zIsI (zv z 47 2) (Int32.ofInt 0) && (zIsI (zv z 0 6) (Int32.ofInt 0) && (zIsI (zv z 0 7) (Int32.ofInt (-1)) && (zIsI (zv z 205 7) (Int32.ofInt 0) && (zIsI (zv z 205 6) (Int32.ofInt 0) && (zIsI (zv z 205 14) (Int32.ofInt (-1)) && (List.range 388).all (fun k => zIsI (zv z 206 k) (zA0 k))))))))
theorem zinit_ok : (zend zi1 205 && (zend zi2 218 && (zHb zty0 zty0 zih && (zLb zty0 zih && (zih_t zih && (zih_m zih && (zih_s && (zBb zih && (zHc0 zih && (zHc3 zih)))))))))) = true := by decide +kernel
theorem zand10 {a0 a1 a2 a3 a4 a5 a6 a7 a8 a9 : Bool} (h : (a0 && (a1 && (a2 && (a3 && (a4 && (a5 && (a6 && (a7 && (a8 && (a9)))))))))) = true) : a0 = true ∧ a1 = true ∧ a2 = true ∧ a3 = true ∧ a4 = true ∧ a5 = true ∧ a6 = true ∧ a7 = true ∧ a8 = true ∧ a9 = true := by
  simpa only [Bool.and_eq_true] using h
theorem zi1_ok : zend zi1 205 = true := (zand10 zinit_ok).1
theorem zi2_ok : zend zi2 218 = true := (zand10 zinit_ok).2.1
theorem zih_ty : zHb zty0 zty0 zih = true := (zand10 zinit_ok).2.2.1
theorem zih_l : zLb zty0 zih = true := (zand10 zinit_ok).2.2.2.1
theorem zih_t_ok : zih_t zih = true := (zand10 zinit_ok).2.2.2.2.1
theorem zih_m_ok : zih_m zih = true := (zand10 zinit_ok).2.2.2.2.2.1
theorem zih_s_ok : zih_s = true := (zand10 zinit_ok).2.2.2.2.2.2.1
theorem zih_b_ok : zBb zih = true := (zand10 zinit_ok).2.2.2.2.2.2.2.1
theorem zih_h0 : zHc0 zih = true := (zand10 zinit_ok).2.2.2.2.2.2.2.2.1
theorem zih_h3 : zHc3 zih = true := (zand10 zinit_ok).2.2.2.2.2.2.2.2.2
