/-! hoursTold by hand; printed with wip/gen/gen_hours.py -/
theorem zRt1 {ty : List Nat} {A : zA} {v : Option Value} (h : zRt ty [A] v) : ∃ w, v = some w ∧ zG ty A w := by
  cases v with
  | none => exact h.elim
  | some w => exact ⟨w, rfl, h⟩
theorem zRt0 {ty : List Nat} {v : Option Value} (h : zRt ty [] v) : v = none := by
  cases v with
  | none => rfl
  | some w => exact h.elim
theorem zJ_212 : zJ3 212 z_m212 z_c212 z_h212 := ⟨rfl, rfl, rfl⟩
theorem zJ_187 : zJ3 187 z_m187 z_c187 z_h187 := ⟨rfl, rfl, rfl⟩
noncomputable def zC_after : zCt := (208, [(2, 20, 20), (5, 42, 42), (0, 0, 0), (0, 23, 23)], [(0, -1, 23)], [], [(20, 10, 10), (20, 12, 12)], 10, (0, 0, 0, 0), [])
theorem zK_after : zck z_tt zCtl zCand 238 zC_after 0 4000 = true := by decide +kernel
theorem zR_187 {sx : zX} {d : Nat} {h : zH} {x : Int32} (h1 : 0 ≤ x.toInt) (h2 : x.toInt ≤ 23) : z_ok sx d 187 0 [(0, .int x)] [] h (fun o h' a b => h' = h ∧ a = 0 ∧ b = 0 ∧ ∃ w : Int32, o = .inl (some (.int w)) ∧ w.toInt = (x.toInt + 1) % 24) := by
  refine zh zJ_187 (i := (1, 0, 0, 0)) rfl rfl (k' := 1) (lo' := [(0, .int x)]) (st' := [.int x]) (h' := h) rfl ?_
  refine zh zJ_187 (i := (0, 0, 0, 1)) rfl rfl (k' := 2) (lo' := [(0, .int x)]) (st' := [.int (Int32.ofInt (1)), .int x]) (h' := h) rfl ?_
  refine zh zJ_187 (i := (8, 0, 0, 0)) rfl rfl (k' := 3) (lo' := [(0, .int x)]) (st' := [.int (x + (Int32.ofInt (1)))]) (h' := h) rfl ?_
  refine zh zJ_187 (i := (0, 0, 0, 24)) rfl rfl (k' := 4) (lo' := [(0, .int x)]) (st' := [.int (Int32.ofInt (24)), .int (x + (Int32.ofInt (1)))]) (h' := h) rfl ?_
  refine zh zJ_187 (i := (12, 0, 0, 0)) rfl rfl (k' := 5) (lo' := [(0, .int x)]) (st' := [.int ((x + Int32.ofInt (1)) - (x + Int32.ofInt (1)) / Int32.ofInt (24) * Int32.ofInt (24))]) (h' := h) rfl ?_
  refine zh_iret zJ_187 (a := 0) (b := 0) (z := 0) rfl (Or.inl rfl) ?_
  refine ⟨rfl, rfl, rfl, _, rfl, ?_⟩
  have e1 := zadd1 (m := x) (by omega) (by omega)
  rw [zrem_ok (by omega) (by decide), e1]
  rfl
set_option maxRecDepth 100000 in
theorem zLp_212 {sx : zX} {d a : Nat} {Ψ : zO → zH → Nat → Nat → Prop} {h : zH} {y f : Int32} (hd : 8 ≤ d) (hy1 : 0 ≤ y.toInt) (hy2 : y.toInt ≤ 23) (kk : ∀ c : Int32, Ψ (.inl (some (.int c))) h 0 0) : ∀ (r : Nat) (x c : Int32), 0 ≤ x.toInt → x.toInt ≤ 23 → (y.toInt - x.toInt) % 24 = (r : Int) → z_ok sx d 212 25 [(4, .int x), (3, .int c), (2, .int y), (1, .int f), (0, .ref a)] [] h Ψ
  | r, x, c, hx1, hx2, hr => by
    have ih : ∀ (x' c' : Int32), 0 ≤ x'.toInt → x'.toInt ≤ 23 → ((y.toInt - x'.toInt) % 24 = (r : Int) - 1 ∧ 1 ≤ (r : Int)) → z_ok sx d 212 25 [(4, .int x'), (3, .int c'), (2, .int y), (1, .int f), (0, .ref a)] [] h Ψ := fun x' c' h1 h2 h3 => by
      cases r with
      | zero => omega
      | succ r => exact zLp_212 hd hy1 hy2 kk r x' c' h1 h2 (by omega)
    refine zh zJ_212 (i := (1, 4, 0, 0)) rfl rfl (k' := 26) (lo' := [(4, .int x), (3, .int c), (2, .int y), (1, .int f), (0, .ref a)]) (st' := [.int x]) (h' := h) rfl ?_
    refine zh zJ_212 (i := (1, 2, 0, 0)) rfl rfl (k' := 27) (lo' := [(4, .int x), (3, .int c), (2, .int y), (1, .int f), (0, .ref a)]) (st' := [.int y, .int x]) (h' := h) rfl ?_
    refine zh_icmp zJ_212 (a := 38) (b := 0) (z := 0) rfl (fun hc => ?_) (fun hc => ?_)
    · refine zh zJ_212 (i := (1, 3, 0, 0)) rfl rfl (k' := 39) (lo' := [(4, .int x), (3, .int c), (2, .int y), (1, .int f), (0, .ref a)]) (st' := [.int c]) (h' := h) rfl ?_
      refine zh_iret zJ_212 (a := 0) (b := 0) (z := 0) rfl (Or.inl rfl) ?_
      exact kk _
    · have hne : x.toInt ≠ y.toInt := fun e => hc (zcmp_eq.mpr e)
      refine zh zJ_212 (i := (1, 3, 0, 0)) rfl rfl (k' := 29) (lo' := [(4, .int x), (3, .int c), (2, .int y), (1, .int f), (0, .ref a)]) (st' := [.int c]) (h' := h) rfl ?_
      refine zh zJ_212 (i := (0, 0, 0, 1)) rfl rfl (k' := 30) (lo' := [(4, .int x), (3, .int c), (2, .int y), (1, .int f), (0, .ref a)]) (st' := [.int (Int32.ofInt (1)), .int c]) (h' := h) rfl ?_
      refine zh zJ_212 (i := (1, 4, 0, 0)) rfl rfl (k' := 31) (lo' := [(4, .int x), (3, .int c), (2, .int y), (1, .int f), (0, .ref a)]) (st' := [.int x, .int (Int32.ofInt (1)), .int c]) (h' := h) rfl ?_
      refine zh zJ_212 (i := (13, 0, 0, 0)) rfl rfl (k' := 32) (lo' := [(4, .int x), (3, .int c), (2, .int y), (1, .int f), (0, .ref a)]) (st' := [.int ((Int32.ofInt (1)) <<< (x &&& 31)), .int c]) (h' := h) rfl ?_
      refine zh zJ_212 (i := (17, 0, 0, 0)) rfl rfl (k' := 33) (lo' := [(4, .int x), (3, .int c), (2, .int y), (1, .int f), (0, .ref a)]) (st' := [.int (c ||| ((Int32.ofInt (1)) <<< (x &&& 31)))]) (h' := h) rfl ?_
      refine zh zJ_212 (i := (4, 3, 0, 0)) rfl rfl (k' := 34) (lo' := [(3, .int (c ||| ((Int32.ofInt (1)) <<< (x &&& 31)))), (4, .int x), (2, .int y), (1, .int f), (0, .ref a)]) (st' := []) (h' := h) rfl ?_
      refine zh zJ_212 (i := (1, 4, 0, 0)) rfl rfl (k' := 35) (lo' := [(3, .int (c ||| ((Int32.ofInt (1)) <<< (x &&& 31)))), (4, .int x), (2, .int y), (1, .int f), (0, .ref a)]) (st' := [.int x]) (h' := h) rfl ?_
      refine zh_run zJ_212 (i := (55, 187, 1, 0)) (rest := []) (as := [.int x]) rfl (by decide) (zcal55 (xs := [.int x]) (by omega) rfl rfl (Nat.le_of_ble_eq_true rfl) (M' := z_m187) rfl (Nat.le_of_ble_eq_true rfl)) (zR_187 hx1 hx2) (fun o h' a9 b9 q => ?_)
      obtain ⟨rfl, rfl, rfl, w, rfl, hw⟩ := q
      refine ⟨_, rfl, rfl, rfl, ?_⟩
      show z_ok sx d 212 36 [(3, .int (c ||| ((Int32.ofInt (1)) <<< (x &&& 31)))), (4, .int x), (2, .int y), (1, .int f), (0, .ref a)] [.int w] h' Ψ
      refine zh zJ_212 (i := (4, 4, 0, 0)) rfl rfl (k' := 37) (lo' := [(4, .int w), (3, .int (c ||| ((Int32.ofInt (1)) <<< (x &&& 31)))), (2, .int y), (1, .int f), (0, .ref a)]) (st' := []) (h' := h') rfl ?_
      refine zh zJ_212 (i := (30, 25, 0, 0)) rfl rfl (k' := 25) (lo' := [(4, .int w), (3, .int (c ||| ((Int32.ofInt (1)) <<< (x &&& 31)))), (2, .int y), (1, .int f), (0, .ref a)]) (st' := []) (h' := h') rfl ?_
      exact ih w _ (by omega) (by omega) (by omega)
set_option maxRecDepth 100000 in
theorem zV_238 (H : ∀ c, c < 238 → ∀ c', zCtl[c]? = some c' → zVd z_tt zE1 c') : zVd z_tt zE1 zC238 := by
  intro sx d ty h as hd T E hA
  match as, hA with
  | [va], hA =>
  obtain ⟨a, t, rfl, ha, t1, t2⟩ := hA.1
  have et : t = 20 := by omega
  subst et
  show z_ok sx d 212 0 [(0, .ref a)] [] h _
  obtain ⟨fs, he, hl⟩ := zcell0 (c := 9) (n := 23) T ha rfl rfl rfl
  have hd : 20 ≤ d := hd
  have last : ∀ (ty2 : List Nat) (h2 : zH) (f y : Int32), zExt ty ty2 → zTY z_tt ty2 h2 → zE1 ty2 h2 → zFm (zcM zC238) ty h h2 → y.toInt ≤ 23 → (0 ≤ y.toInt → 0 ≤ f.toInt ∧ f.toInt ≤ 23) → z_ok sx d 212 14 [(1, .int f), (0, .ref a)] [.int y] h2 (zPo z_tt zE1 zC238 ty h) := by
    intro ty2 h2 f y X2 T2 E2 F2 hy2 hyf
    have hret : ∀ v : Int32, zPo z_tt zE1 zC238 ty h (.inl (some (.int v))) h2 0 0 := fun v => ⟨ty2, X2, T2, E2, F2, zFull_ok (ty := ty2) v, Nat.le_refl _, Nat.le_refl _⟩
    refine zh zJ_212 (i := (4, 2, 0, 0)) rfl rfl (k' := 15) (lo' := [(2, .int y), (1, .int f), (0, .ref a)]) (st' := []) (h' := h2) rfl ?_
    refine zh zJ_212 (i := (1, 2, 0, 0)) rfl rfl (k' := 16) (lo' := [(2, .int y), (1, .int f), (0, .ref a)]) (st' := [.int y]) (h' := h2) rfl ?_
    refine zh_if zJ_212 (a := 19) (b := 3) (z := 0) rfl (fun hc => ?_) (fun hc => ?_)
    · have hy1 : 0 ≤ y.toInt := zcmp_ge.mp hc
      obtain ⟨f1, f2⟩ := hyf hy1
      refine zh zJ_212 (i := (0, 0, 0, 1)) rfl rfl (k' := 20) (lo' := [(2, .int y), (1, .int f), (0, .ref a)]) (st' := [.int (Int32.ofInt (1))]) (h' := h2) rfl ?_
      refine zh zJ_212 (i := (1, 2, 0, 0)) rfl rfl (k' := 21) (lo' := [(2, .int y), (1, .int f), (0, .ref a)]) (st' := [.int y, .int (Int32.ofInt (1))]) (h' := h2) rfl ?_
      refine zh zJ_212 (i := (13, 0, 0, 0)) rfl rfl (k' := 22) (lo' := [(2, .int y), (1, .int f), (0, .ref a)]) (st' := [.int ((Int32.ofInt (1)) <<< (y &&& 31))]) (h' := h2) rfl ?_
      refine zh zJ_212 (i := (4, 3, 0, 0)) rfl rfl (k' := 23) (lo' := [(3, .int ((Int32.ofInt (1)) <<< (y &&& 31))), (2, .int y), (1, .int f), (0, .ref a)]) (st' := []) (h' := h2) rfl ?_
      refine zh zJ_212 (i := (1, 1, 0, 0)) rfl rfl (k' := 24) (lo' := [(3, .int ((Int32.ofInt (1)) <<< (y &&& 31))), (2, .int y), (1, .int f), (0, .ref a)]) (st' := [.int f]) (h' := h2) rfl ?_
      refine zh zJ_212 (i := (4, 4, 0, 0)) rfl rfl (k' := 25) (lo' := [(4, .int f), (3, .int ((Int32.ofInt (1)) <<< (y &&& 31))), (2, .int y), (1, .int f), (0, .ref a)]) (st' := []) (h' := h2) rfl ?_
      exact zLp_212 (by omega) hy1 hy2 hret _ f _ f1 f2 (Int.toNat_of_nonneg (Int.emod_nonneg _ (by decide))).symm
    · refine zh zJ_212 (i := (0, 0, 0, -1)) rfl rfl (k' := 18) (lo' := [(2, .int y), (1, .int f), (0, .ref a)]) (st' := [.int (Int32.ofInt (-1))]) (h' := h2) rfl ?_
      refine zh_iret zJ_212 (a := 0) (b := 0) (z := 0) rfl (Or.inl rfl) ?_
      exact hret _
  refine zh zJ_212 (i := (2, 0, 0, 0)) rfl rfl (k' := 1) (lo' := [(0, .ref a)]) (st' := [.ref a]) (h' := h) rfl ?_
  refine zh zJ_212 (i := (0, 0, 0, 0)) rfl rfl (k' := 2) (lo' := [(0, .ref a)]) (st' := [.int (Int32.ofInt (0)), .ref a]) (h' := h) rfl ?_
  refine zh zJ_212 (i := (0, 0, 0, 23)) rfl rfl (k' := 3) (lo' := [(0, .ref a)]) (st' := [.int (Int32.ofInt (23)), .int (Int32.ofInt (0)), .ref a]) (h' := h) rfl ?_
  refine zh_con zJ_212 (i := (54, 207, 2, 9)) (rest := []) (as := [.ref a, .int (Int32.ofInt (0)), .int (Int32.ofInt (23))]) rfl (by decide) (zcal54 (xs := [.int (Int32.ofInt (23)), .int (Int32.ofInt (0))]) (by omega) rfl rfl he rfl (Nat.le_of_ble_eq_true rfl) (M' := z_m207) rfl (Nat.le_of_ble_eq_true rfl)) (H 232 (by decide) zC232 rfl) rfl (by show 2 + 1 ≤ d; omega) rfl ⟨rfl, rfl⟩ T E ⟨⟨a, 20, rfl, ha, Int.le_refl _, Int.le_refl _⟩, zK0 (by decide) (by decide), zK0 (by decide) (by decide), trivial⟩ (fun ty1 h1 v X1 T1 E1 F1 R1 => ?_)
  obtain ⟨w, rfl, f, rfl, f1, f2⟩ := zRt1 R1
  show z_ok sx d 212 4 [(0, .ref a)] [.int f] h1 _
  refine zh zJ_212 (i := (4, 1, 0, 0)) rfl rfl (k' := 5) (lo' := [(1, .int f), (0, .ref a)]) (st' := []) (h' := h1) rfl ?_
  refine zh zJ_212 (i := (1, 1, 0, 0)) rfl rfl (k' := 6) (lo' := [(1, .int f), (0, .ref a)]) (st' := [.int f]) (h' := h1) rfl ?_
  refine zh_if zJ_212 (a := 9) (b := 3) (z := 0) rfl (fun hc => ?_) (fun hc => ?_)
  · have f0 : 0 ≤ f.toInt := zcmp_ge.mp hc
    refine zh zJ_212 (i := (2, 0, 0, 0)) rfl rfl (k' := 10) (lo' := [(1, .int f), (0, .ref a)]) (st' := [.ref a]) (h' := h1) rfl ?_
    refine zh zJ_212 (i := (58, 42, 0, 0)) rfl rfl (k' := 11) (lo' := [(1, .int f), (0, .ref a)]) (st' := [.ref (zB + 42), .ref a]) (h' := h1) rfl ?_
    refine zh zJ_212 (i := (0, 0, 0, 0)) rfl rfl (k' := 12) (lo' := [(1, .int f), (0, .ref a)]) (st' := [.int (Int32.ofInt (0)), .ref (zB + 42), .ref a]) (h' := h1) rfl ?_
    refine zh zJ_212 (i := (0, 0, 0, 23)) rfl rfl (k' := 13) (lo' := [(1, .int f), (0, .ref a)]) (st' := [.int (Int32.ofInt (23)), .int (Int32.ofInt (0)), .ref (zB + 42), .ref a]) (h' := h1) rfl ?_
    obtain ⟨fs1, he1, hl1⟩ := zcell0 (c := 9) (n := 23) T1 (X1 a 20 ha) rfl rfl rfl
    have V : zVd z_tt zE1 zC_after := zck_ok (zE1_stable (by decide +kernel)) H zK_after
    refine zh_con zJ_212 (i := (54, 208, 3, 9)) (rest := []) (as := [.ref a, .ref (zB + 42), .int (Int32.ofInt (0)), .int (Int32.ofInt (23))]) rfl (by decide) (zcal54 (xs := [.int (Int32.ofInt (23)), .int (Int32.ofInt (0)), .ref (zB + 42)]) (by omega) rfl rfl he1 rfl (Nat.le_of_ble_eq_true rfl) (M' := z_m208) rfl (Nat.le_of_ble_eq_true rfl)) V rfl (by show 10 + 1 ≤ d; omega) rfl ⟨rfl, rfl⟩ T1 E1 ⟨⟨a, 20, rfl, X1 a 20 ha, Int.le_refl _, Int.le_refl _⟩, rfl, zK0 (by decide) (by decide), zK0 (by decide) (by decide), trivial⟩ (fun ty2 h2 v X2 T2 E2 F2 R2 => ?_)
    obtain ⟨w, rfl, y, rfl, y1, y2⟩ := zRt1 R2
    exact last ty2 h2 f y (X1.tr X2) T2 E2 (F1.tr X1 F2) y2 (fun _ => ⟨f0, f2⟩)
  · refine zh zJ_212 (i := (0, 0, 0, -1)) rfl rfl (k' := 8) (lo' := [(1, .int f), (0, .ref a)]) (st' := [.int (Int32.ofInt (-1))]) (h' := h1) rfl ?_
    refine zh zJ_212 (i := (30, 14, 0, 0)) rfl rfl (k' := 14) (lo' := [(1, .int f), (0, .ref a)]) (st' := [.int (Int32.ofInt (-1))]) (h' := h1) rfl ?_
    exact last ty1 h1 f (Int32.ofInt (-1)) X1 T1 E1 F1 (by decide) (fun e => absurd e (by decide))
