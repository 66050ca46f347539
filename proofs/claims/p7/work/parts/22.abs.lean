/-! THE CHECKER's STATE: values by numbers (env), what places of the heap hold (memo), frames -/
abbrev zEn : Type := zA × Nat × Int
abbrev zMe : Type := Nat × Nat × Int × Nat
abbrev zLs : Type := List (Nat × Nat)
abbrev zAf : Type := Nat × Nat × zLs × List Nat
abbrev zQ : Type := List zEn × List zMe × zLs × List Nat
noncomputable def zMn : Int := -2147483648
noncomputable def zMx : Int := 2147483647
noncomputable def zFull : zA := (0, -2147483648, 2147483647)
noncomputable def zLn : Int := -9223372036854775808
noncomputable def zLx : Int := 9223372036854775807
noncomputable def zI0 (lo hi : Int) : zA := (0, lo, hi)
/-- of an int between: its bounds -/
noncomputable def zw (lo hi : Int) : zA := if zMn ≤ lo ∧ hi ≤ zMx then (0, lo, hi) else zFull
noncomputable def zlw (lo hi : Int) : zA := if zLn ≤ lo ∧ hi ≤ zLx then (1, lo, hi) else (1, zLn, zLx)
noncomputable def zmin4 (a b c d : Int) : Int := min (min a b) (min c d)
noncomputable def zmax4 (a b c d : Int) : Int := max (max a b) (max c d)
/-- bounds of a computed int -/
noncomputable def zar (o : Nat) (a b c d : Int) : Option zA := match o with
  | 8 => some (zw (a + c) (b + d))
  | 9 => some (zw (a - d) (b - c))
  | 10 => some (zw (zmin4 (a * c) (a * d) (b * c) (b * d)) (zmax4 (a * c) (a * d) (b * c) (b * d)))
  | 11 => if 0 < c then (if 0 ≤ a then some (0, a / d, b / c) else some zFull) else if d < 0 then some zFull else none
  | 12 => if 0 < c then (if 0 ≤ a then some (0, 0, min b (d - 1)) else some zFull) else if d < 0 then some zFull else none
  | 13 => if a = 1 ∧ b = 1 ∧ 0 ≤ c ∧ d ≤ 30 then some (0, 2 ^ c.toNat, 2 ^ d.toNat) else some zFull
  | 16 => if 0 ≤ c then some (0, 0, d) else if 0 ≤ a then some (0, 0, b) else some zFull
  | 14 => some zFull
  | 15 => some zFull
  | 17 => some zFull
  | 18 => some zFull
  | _ => none
noncomputable def zop2 (o : Nat) (x y : Int32) : Int32 := match o with
  | 8 => x + y
  | 9 => x - y
  | 10 => x * y
  | 11 => x / y
  | 12 => x - x / y * y
  | 13 => x <<< (y &&& 31)
  | 14 => x >>> (y &&& 31)
  | 15 => (x.toUInt32 >>> (y.toUInt32 &&& Int32.toUInt32 31)).toInt32
  | 16 => x &&& y
  | 17 => x ||| y
  | _ => x ^^^ y
theorem zw_ok {ty : List Nat} {lo hi n : Int} {x : Int32} (h1 : lo ≤ n) (h2 : n ≤ hi) (hx : x.toInt = n.bmod (2 ^ 32)) : zG ty (zw lo hi) (.int x) := by
  unfold zw
  by_cases h : zMn ≤ lo ∧ hi ≤ zMx
  · rw [if_pos h]
    have e1 : zMn = -2147483648 := rfl
    have e2 : zMx = 2147483647 := rfl
    rw [z_bm (by omega) (by omega)] at hx
    exact ⟨x, rfl, by omega, by omega⟩
  · rw [if_neg h]
    exact ⟨x, rfl, (zb32 x).1, (zb32 x).2⟩
theorem zFull_ok {ty : List Nat} (x : Int32) : zG ty zFull (.int x) := ⟨x, rfl, (zb32 x).1, (zb32 x).2⟩
theorem zmul_bd {a b c d x y : Int} (h1 : a ≤ x) (h2 : x ≤ b) (h3 : c ≤ y) (h4 : y ≤ d) : zmin4 (a * c) (a * d) (b * c) (b * d) ≤ x * y ∧ x * y ≤ zmax4 (a * c) (a * d) (b * c) (b * d) := by
  have low : ∀ u v p q r s : Int, min (min p q) (min r s) ≤ p ∧ min (min p q) (min r s) ≤ q ∧ min (min p q) (min r s) ≤ r ∧ min (min p q) (min r s) ≤ s := fun _ _ p q r s => by omega
  have key1 : ∀ y : Int, min (a * y) (b * y) ≤ x * y ∧ x * y ≤ max (a * y) (b * y) := by
    intro y
    rcases Int.le_total 0 y with hy | hy
    · have e1 := Int.mul_le_mul_of_nonneg_right h1 hy
      have e2 := Int.mul_le_mul_of_nonneg_right h2 hy
      omega
    · have e1 := Int.mul_le_mul_of_nonpos_right h1 hy
      have e2 := Int.mul_le_mul_of_nonpos_right h2 hy
      omega
  have key2 : ∀ p : Int, min (p * c) (p * d) ≤ p * y ∧ p * y ≤ max (p * c) (p * d) := by
    intro p
    rcases Int.le_total 0 p with hp | hp
    · have e1 := Int.mul_le_mul_of_nonneg_left h3 hp
      have e2 := Int.mul_le_mul_of_nonneg_left h4 hp
      omega
    · have e1 := Int.mul_le_mul_of_nonpos_left hp h3
      have e2 := Int.mul_le_mul_of_nonpos_left hp h4
      omega
  have k1 := key1 y
  have k2 := key2 a
  have k3 := key2 b
  unfold zmin4 zmax4
  omega
theorem zti (z : Int32) : z.toInt = if 2 * z.toBitVec.toNat < 2 ^ 32 then (z.toBitVec.toNat : Int) else (z.toBitVec.toNat : Int) - 2 ^ 32 := by
  have h := BitVec.toInt_eq_toNat_cond z.toBitVec
  rw [← Int32.toInt_toBitVec, h]
  rfl
theorem zand_ok (x y : Int32) (h : 0 ≤ y.toInt) : 0 ≤ (x &&& y).toInt ∧ (x &&& y).toInt ≤ y.toInt := by
  have ha : (x &&& y).toBitVec.toNat = x.toBitVec.toNat &&& y.toBitVec.toNat := by rw [Int32.toBitVec_and, BitVec.toNat_and]
  have hle : x.toBitVec.toNat &&& y.toBitVec.toNat ≤ y.toBitVec.toNat := Nat.and_le_right
  have hy := y.toBitVec.isLt
  have e1 := zti y
  have e2 := zti (x &&& y)
  rw [ha] at e2
  split at e1 <;> split at e2 <;> omega
theorem zshl_key : ∀ n : Nat, n < 31 → ((1 : Int32) <<< (Int32.ofInt (n : Int) &&& 31)).toInt = (2 : Int) ^ n := by decide +kernel
theorem zpow_le {a b : Nat} (h : a ≤ b) : (2 : Int) ^ a ≤ 2 ^ b := by
  have := Nat.pow_le_pow_right (n := 2) (by omega) h
  exact_mod_cast this
theorem zshl_ok (y : Int32) (c d : Int) (h0 : 0 ≤ c) (h1 : c ≤ y.toInt) (h2 : y.toInt ≤ d) (h3 : d ≤ 30) : (2 : Int) ^ c.toNat ≤ ((1 : Int32) <<< (y &&& 31)).toInt ∧ ((1 : Int32) <<< (y &&& 31)).toInt ≤ 2 ^ d.toNat := by
  have e : y = Int32.ofInt ((y.toInt.toNat : Nat) : Int) := by rw [Int.toNat_of_nonneg (by omega)]; exact (Int32.ofInt_toInt y).symm
  have k := zshl_key y.toInt.toNat (by omega)
  rw [← e] at k
  rw [k]
  exact ⟨zpow_le (by omega), zpow_le (by omega)⟩
theorem zdiv_ok {x y : Int32} {a b c d : Int} (h1 : a ≤ x.toInt) (h2 : x.toInt ≤ b) (h3 : c ≤ y.toInt) (h4 : y.toInt ≤ d) (hc : 0 < c) (ha : 0 ≤ a) : (x / y).toInt = x.toInt / y.toInt ∧ a / d ≤ (x / y).toInt ∧ (x / y).toInt ≤ b / c := by
  have hy : 0 < y.toInt := by omega
  have hq : 0 ≤ x.toInt / y.toInt := Int.ediv_nonneg (by omega) (by omega)
  have hm : x.toInt / y.toInt * y.toInt ≤ x.toInt := Int.ediv_mul_le _ (by omega)
  have hle : x.toInt / y.toInt ≤ x.toInt := Int.ediv_le_self _ (by omega)
  have e : (x / y).toInt = x.toInt / y.toInt := by
    rw [Int32.toInt_div, Int.tdiv_eq_ediv_of_nonneg (by omega)]
    have := zb32 x
    exact z_bm (by omega) (by omega)
  refine ⟨e, ?_, ?_⟩
  · rw [e, Int.le_ediv_iff_mul_le hy]
    have hd : 0 ≤ a / d := Int.ediv_nonneg ha (by omega)
    have k1 : a / d * y.toInt ≤ a / d * d := Int.mul_le_mul_of_nonneg_left h4 hd
    have k2 : a / d * d ≤ a := Int.ediv_mul_le _ (by omega)
    omega
  · rw [e, Int.le_ediv_iff_mul_le hc]
    have k1 : x.toInt / y.toInt * c ≤ x.toInt / y.toInt * y.toInt := Int.mul_le_mul_of_nonneg_left h3 hq
    omega
theorem zrem_ok {x y : Int32} (h1 : 0 ≤ x.toInt) (h3 : 0 < y.toInt) : (x - x / y * y).toInt = x.toInt % y.toInt := by
  have hd := (zdiv_ok (a := 0) (b := x.toInt) (c := y.toInt) (d := y.toInt) h1 (Int.le_refl _) (Int.le_refl _) (Int.le_refl _) h3 (Int.le_refl _)).1
  have hx := zb32 x
  have hq : 0 ≤ x.toInt / y.toInt := Int.ediv_nonneg (by omega) (by omega)
  have hm : x.toInt / y.toInt * y.toInt ≤ x.toInt := Int.ediv_mul_le _ (by omega)
  have hn : 0 ≤ x.toInt / y.toInt * y.toInt := Int.mul_nonneg hq (by omega)
  have e1 : (x / y * y).toInt = x.toInt / y.toInt * y.toInt := by
    rw [Int32.toInt_mul, hd]
    exact z_bm (by omega) (by omega)
  rw [Int32.toInt_sub, e1, z_bm (by omega) (by omega)]
  have := Int.emod_def x.toInt y.toInt
  rw [this, Int.mul_comm]
theorem zne0 {y : Int32} (h : y.toInt ≠ 0) : y ≠ 0 := fun e => h (by rw [e]; rfl)
theorem zar_ok {ty : List Nat} {o : Nat} {a b c d : Int} {r : zA} {x y : Int32} (hr : zar o a b c d = some r) (h1 : a ≤ x.toInt) (h2 : x.toInt ≤ b) (h3 : c ≤ y.toInt) (h4 : y.toInt ≤ d) : zG ty r (.int (zop2 o x y)) ∧ ((o = 11 ∨ o = 12) → y ≠ 0) := by
  unfold zar at hr
  split at hr
  · cases hr
    exact ⟨zw_ok (n := x.toInt + y.toInt) (by omega) (by omega) (Int32.toInt_add x y), fun h => by omega⟩
  · cases hr
    exact ⟨zw_ok (n := x.toInt - y.toInt) (by omega) (by omega) (Int32.toInt_sub x y), fun h => by omega⟩
  · cases hr
    obtain ⟨k1, k2⟩ := zmul_bd h1 h2 h3 h4
    exact ⟨zw_ok (n := x.toInt * y.toInt) k1 k2 (Int32.toInt_mul x y), fun h => by omega⟩
  · split at hr
    · next hc =>
      split at hr
      · next ha =>
        cases hr
        obtain ⟨e, k1, k2⟩ := zdiv_ok h1 h2 h3 h4 hc ha
        exact ⟨⟨_, rfl, k1, k2⟩, fun _ => zne0 (by omega)⟩
      · cases hr
        exact ⟨zFull_ok _, fun _ => zne0 (by omega)⟩
    · split at hr
      · cases hr
        exact ⟨zFull_ok _, fun _ => zne0 (by omega)⟩
      · cases hr
  · split at hr
    · next hc =>
      split at hr
      · next ha =>
        cases hr
        have e := zrem_ok (x := x) (y := y) (by omega) (by omega)
        have k1 := Int.emod_nonneg x.toInt (b := y.toInt) (by omega)
        have k2 := Int.emod_lt_of_pos x.toInt (b := y.toInt) (by omega)
        have k3 : x.toInt % y.toInt ≤ x.toInt := by
          have := Int.emod_def x.toInt y.toInt
          have hq : 0 ≤ y.toInt * (x.toInt / y.toInt) := Int.mul_nonneg (by omega) (Int.ediv_nonneg (by omega) (by omega))
          omega
        exact ⟨⟨_, rfl, by rw [show zop2 12 x y = x - x / y * y from rfl, e]; exact k1, by rw [show zop2 12 x y = x - x / y * y from rfl, e]; omega⟩, fun _ => zne0 (by omega)⟩
      · cases hr
        exact ⟨zFull_ok _, fun _ => zne0 (by omega)⟩
    · split at hr
      · cases hr
        exact ⟨zFull_ok _, fun _ => zne0 (by omega)⟩
      · cases hr
  · split at hr
    · next hc =>
      cases hr
      obtain ⟨rfl, rfl, c0, d0⟩ := hc
      have ex : x = 1 := Int32.toInt_inj.mp (by rw [show (1 : Int32).toInt = 1 from rfl]; omega)
      subst ex
      obtain ⟨k1, k2⟩ := zshl_ok y c d c0 h3 h4 d0
      exact ⟨⟨_, rfl, k1, k2⟩, fun h => by omega⟩
    · cases hr
      exact ⟨zFull_ok _, fun h => by omega⟩
  · split at hr
    · next hc =>
      cases hr
      obtain ⟨k1, k2⟩ := zand_ok x y (by omega)
      exact ⟨⟨_, rfl, k1, by show (x &&& y).toInt ≤ d; omega⟩, fun h => by omega⟩
    · split at hr
      · next ha =>
        cases hr
        obtain ⟨k1, k2⟩ := zand_ok y x (by omega)
        rw [Int32.and_comm] at k1 k2
        exact ⟨⟨_, rfl, k1, by show (x &&& y).toInt ≤ b; omega⟩, fun h => by omega⟩
      · cases hr
        exact ⟨zFull_ok _, fun h => by omega⟩
  · cases hr; exact ⟨zFull_ok _, fun h => by omega⟩
  · cases hr; exact ⟨zFull_ok _, fun h => by omega⟩
  · cases hr; exact ⟨zFull_ok _, fun h => by omega⟩
  · cases hr; exact ⟨zFull_ok _, fun h => by omega⟩
  · cases hr
