/-! the checker's steps that leave the heap as it is -/
abbrev zQop : Type := (Nat → zTy) → Nat → List zMod → Nat → Nat → Int → zQ → Option zQ
noncomputable def zSd (op : zNop) (qop : zQop) : Prop := ∀ (tt : Nat → zTy) (sx : zX) (dq d : Nat) (ms : List zMod) (a b : Nat) (c : Int) (k : Nat) (ty : List Nat) (ρ : List Value) (q q' : zQ) (lo : zL) (st : List Value) (h : zH), dq ≤ d → zTY tt ty h → zEv ty ρ q.1 → zMm h ρ q.2.1 → zLo ρ q.2.2.1 lo → zSk ρ q.2.2.2 st → qop tt dq ms a b c q = some q' →
  ∃ (ρ' : List Value) (lo' : zL) (st' : List Value) (h' : zH), op sx d a b c k lo st h = zn (k + 1) lo' st' h' ∧ zRx ρ ρ' ∧ zTY tt ty h' ∧ zEv ty ρ' q'.1 ∧ zMm h' ρ' q'.2.1 ∧ zLo ρ' q'.2.2.1 lo' ∧ zSk ρ' q'.2.2.2 st' ∧ zFm ms ty h h'
noncomputable def zPu (q : zQ) (stk : List Nat) (e : zEn) : zQ := (q.1 ++ [e], q.2.1, q.2.2.1, q.1.length :: stk)
theorem zPu_ok {ty : List Nat} {ρ : List Value} {q : zQ} {stk : List Nat} {e : zEn} {v : Value} {lo : zL} {st : List Value} {h : zH} (E : zEv ty ρ q.1) (Mm : zMm h ρ q.2.1) (L : zLo ρ q.2.2.1 lo) (S : zSk ρ stk st) (hv : zG ty e.1 v) (hb : ∀ b, e.2.1 = b + 1 → ∃ x y : Int32, v = .int x ∧ ρ[b]? = some (.int y) ∧ x.toInt = y.toInt + e.2.2) : zRx ρ (ρ ++ [v]) ∧ zEv ty (ρ ++ [v]) (zPu q stk e).1 ∧ zMm h (ρ ++ [v]) (zPu q stk e).2.1 ∧ zLo (ρ ++ [v]) (zPu q stk e).2.2.1 lo ∧ zSk (ρ ++ [v]) (zPu q stk e).2.2.2 (v :: st) :=
  ⟨zRx.app, E.push hv hb, Mm.mono zRx.app, L.mono zRx.app, E.new v, S.mono zRx.app⟩
theorem zPu0 {ty : List Nat} {ρ : List Value} {q : zQ} {stk : List Nat} {a : zA} {v : Value} {lo : zL} {st : List Value} {h : zH} (E : zEv ty ρ q.1) (Mm : zMm h ρ q.2.1) (L : zLo ρ q.2.2.1 lo) (S : zSk ρ stk st) (hv : zG ty a v) : zRx ρ (ρ ++ [v]) ∧ zEv ty (ρ ++ [v]) (zPu q stk (a, 0, 0)).1 ∧ zMm h (ρ ++ [v]) (zPu q stk (a, 0, 0)).2.1 ∧ zLo (ρ ++ [v]) (zPu q stk (a, 0, 0)).2.2.1 lo ∧ zSk (ρ ++ [v]) (zPu q stk (a, 0, 0)).2.2.2 (v :: st) :=
  zPu_ok E Mm L S hv (fun b h => by cases h)
noncomputable def zq_no : zQop := fun _ _ _ _ _ _ _ => none
theorem zSd_no (op : zNop) : zSd op zq_no := fun _ _ _ _ _ _ _ _ _ _ _ _ _ _ _ _ _ _ _ _ _ _ h => by cases h
noncomputable def zq_const : zQop := fun _ _ _ _ _ c q => if zMn ≤ c ∧ c ≤ zMx then some (zPu q q.2.2.2 ((0, c, c), 0, 0)) else none
theorem zSd_const : zSd zo_const zq_const := by
  intro tt sx dq d ms a b c k ty ρ q q' lo st h hd T E Mm L S hq
  unfold zq_const at hq
  split at hq
  case isFalse => cases hq
  next hc =>
  cases hq
  have e1 : zMn = -2147483648 := rfl
  have e2 : zMx = 2147483647 := rfl
  have e := z_of32 (n := c) (by omega) (by omega)
  obtain ⟨r1, r2, r3, r4, r5⟩ := zPu0 (v := .int (Int32.ofInt c)) E Mm L S (a := (0, c, c)) ⟨_, rfl, by rw [e]; exact Int.le_refl _, by rw [e]; exact Int.le_refl _⟩
  exact ⟨_, _, _, _, rfl, r1, T, r2, r3, r4, r5, zFm.rf⟩
/-! locals -/
noncomputable def zq_load (P : zA → Bool) : zQop := fun _ _ _ a _ _ q => match zlk q.2.2.1 a with
  | some i => if P (zav q.1 i) = true then some (q.1, q.2.1, q.2.2.1, i :: q.2.2.2) else none
  | none => none
theorem zSd_load {op : zNop} {P : zA → Bool} (hop : ∀ (sx : zX) (d a b : Nat) (c : Int) (k : Nat) (lo : zL) (st : List Value) (h : zH) (ty : List Nat) (w : zA) (v : Value), z_get lo a = some v → zG ty w v → P w = true → op sx d a b c k lo st h = zn (k + 1) lo (v :: st) h) : zSd op (zq_load P) := by
  intro tt sx dq d ms a b c k ty ρ q q' lo st h hd T E Mm L S hq
  unfold zq_load at hq
  split at hq
  case h_2 => cases hq
  next i hi =>
  split at hq
  case isFalse => cases hq
  next hP =>
  cases hq
  obtain ⟨v, h1, h2⟩ := zlk_ok L hi
  exact ⟨ρ, lo, v :: st, h, hop sx d a b c k lo st h ty _ v h2 (E.at h1) hP, zRx.rf, T, E, Mm, L, ⟨h1, S⟩, zFm.rf⟩
noncomputable def zisI (a : zA) : Bool := decide (a.1 = 0)
noncomputable def zisJ (a : zA) : Bool := decide (a.1 = 1)
theorem zSd_iload : zSd zo_iload (zq_load zisI) := zSd_load (fun sx d a b c k lo st h ty w v h1 g hP => by
  obtain ⟨x, rfl, -⟩ := zG0 g (of_decide_eq_true hP)
  unfold zo_iload
  rw [h1])
theorem zSd_aload : zSd zo_aload (zq_load zisR) := zSd_load (fun sx d a b c k lo st h ty w v h1 g hP => by
  obtain ⟨x, rfl⟩ := zGr g hP
  unfold zo_aload
  rw [h1])
theorem zSd_lload : zSd zo_lload (zq_load zisJ) := zSd_load (fun sx d a b c k lo st h ty w v h1 g hP => by
  obtain ⟨x, rfl, -⟩ := zG1 g (of_decide_eq_true hP)
  unfold zo_lload
  rw [h1])
noncomputable def zq_sto1 (P : zA → Bool) : zQop := fun _ _ _ a _ _ q => match q.2.2.2 with
  | i :: stk => if P (zav q.1 i) = true then some (q.1, q.2.1, zset1 q.1 q.2.2.1 a i, stk) else none
  | [] => none
theorem zSd_sto1 {op : zNop} {P : zA → Bool} (hop : ∀ (sx : zX) (d a b : Nat) (c : Int) (k : Nat) (lo : zL) (st : List Value) (h : zH) (ty : List Nat) (w : zA) (v : Value), zG ty w v → P w = true → op sx d a b c k lo (v :: st) h = zn (k + 1) (z_set1 lo a v) st h) : zSd op (zq_sto1 P) := by
  intro tt sx dq d ms a b c k ty ρ q q' lo st h hd T E Mm L S hq
  obtain ⟨env, me, loc, stk⟩ := q
  unfold zq_sto1 at hq
  dsimp only at hq E Mm L S
  cases stk with
  | nil => cases hq
  | cons i stk =>
  cases st with
  | nil => exact S.elim
  | cons v st =>
  dsimp only at hq
  split at hq
  case isFalse => cases hq
  next hP =>
  cases hq
  exact ⟨ρ, _, st, h, hop sx d a b c k lo st h ty _ v (E.at S.1) hP, zRx.rf, T, E, Mm, zset1_ok E L S.1, S.2, zFm.rf⟩
theorem zSd_istore : zSd zo_istore (zq_sto1 zisI) := zSd_sto1 (fun sx d a b c k lo st h ty w v g hP => by
  obtain ⟨x, rfl, -⟩ := zG0 g (of_decide_eq_true hP)
  rfl)
theorem zSd_astore : zSd zo_astore (zq_sto1 zisR) := zSd_sto1 (fun sx d a b c k lo st h ty w v g hP => by
  obtain ⟨x, rfl⟩ := zGr g hP
  rfl)
noncomputable def zq_lstore : zQop := fun _ _ _ a _ _ q => match q.2.2.2 with
  | i :: stk => if (zav q.1 i).1 = 1 then some (q.1, q.2.1, zset2 q.1 q.2.2.1 a i, stk) else none
  | [] => none
theorem zSd_lstore : zSd zo_lstore zq_lstore := by
  intro tt sx dq d ms a b c k ty ρ q q' lo st h hd T E Mm L S hq
  obtain ⟨env, me, loc, stk⟩ := q
  unfold zq_lstore at hq
  dsimp only at hq E Mm L S
  cases stk with
  | nil => cases hq
  | cons i stk =>
  cases st with
  | nil => exact S.elim
  | cons v st =>
  dsimp only at hq
  split at hq
  case isFalse => cases hq
  next hP =>
  cases hq
  obtain ⟨x, rfl, -⟩ := zG1 (E.at S.1) hP
  exact ⟨ρ, _, st, h, rfl, zRx.rf, T, E, Mm, zset2_ok E L S.1, S.2, zFm.rf⟩
/-! sums with a constant keep where they come from -/
noncomputable def zoff (i : Nat) (e : zEn) (c : Int) : zEn := if zMn ≤ e.1.2.1 + c ∧ e.1.2.2 + c ≤ zMx then ((0, e.1.2.1 + c, e.1.2.2 + c), if e.2.1 = 0 then (i + 1, c) else (e.2.1, e.2.2 + c)) else (zFull, 0, 0)
theorem zoff_ok {ty : List Nat} {ρ : List Value} {env : List zEn} {i : Nat} {e : zEn} {c : Int} {x z : Int32} (E : zEv ty ρ env) (he : env[i]? = some e) (hx : ρ[i]? = some (.int x)) (h0 : e.1.1 = 0) (hz : z.toInt = (x.toInt + c).bmod (2 ^ 32)) : zG ty (zoff i e c).1 (.int z) ∧ ∀ b, (zoff i e c).2.1 = b + 1 → ∃ x9 y : Int32, Value.int z = .int x9 ∧ ρ[b]? = some (.int y) ∧ x9.toInt = y.toInt + (zoff i e c).2.2 := by
  unfold zoff
  obtain ⟨g1, g2⟩ := E.2 i e _ he hx
  obtain ⟨x1, hx1, l1, l2⟩ := zG0 g1 h0
  cases hx1
  have e1 : zMn = -2147483648 := rfl
  have e2 : zMx = 2147483647 := rfl
  by_cases hc : zMn ≤ e.1.2.1 + c ∧ e.1.2.2 + c ≤ zMx
  · rw [if_pos hc]
    rw [z_bm (by omega) (by omega)] at hz
    refine ⟨⟨z, rfl, by omega, by omega⟩, fun b hb => ?_⟩
    by_cases h9 : e.2.1 = 0
    · dsimp only at hb ⊢
      rw [if_pos h9] at hb ⊢
      dsimp only at hb ⊢
      cases hb
      exact ⟨z, x, rfl, hx, hz⟩
    · dsimp only at hb ⊢
      rw [if_neg h9] at hb ⊢
      dsimp only at hb ⊢
      obtain ⟨x2, y, q1, q2, q3⟩ := g2 b hb
      cases q1
      exact ⟨z, y, rfl, q2, by omega⟩
  · rw [if_neg hc]
    exact ⟨zFull_ok z, fun b hb => by cases hb⟩
noncomputable def zq_iinc : zQop := fun _ _ _ a _ c q => match zlk q.2.2.1 a with
  | some i => (match q.1[i]? with
    | some e => if e.1.1 = 0 ∧ zMn ≤ c ∧ c ≤ zMx then some (q.1 ++ [zoff i e c], q.2.1, zset1 (q.1 ++ [zoff i e c]) q.2.2.1 a q.1.length, q.2.2.2) else none
    | none => none)
  | none => none
theorem zSd_iinc : zSd zo_iinc zq_iinc := by
  intro tt sx dq d ms a b c k ty ρ q q' lo st h hd T E Mm L S hq
  unfold zq_iinc at hq
  split at hq
  case h_2 => cases hq
  next i hi =>
  split at hq
  case h_2 => cases hq
  next e he =>
  split at hq
  case isFalse => cases hq
  next hc =>
  cases hq
  obtain ⟨v, h1, h2⟩ := zlk_ok L hi
  obtain ⟨x, rfl, -⟩ := zG0 (E.2 i e v he h1).1 hc.1
  have e1 : zMn = -2147483648 := rfl
  have e2 : zMx = 2147483647 := rfl
  obtain ⟨g1, g2⟩ := zoff_ok (c := c) (z := x + Int32.ofInt c) E he h1 hc.1 (by rw [Int32.toInt_add, z_of32 (by omega) (by omega)])
  have E' := E.push g1 g2
  refine ⟨ρ ++ [.int (x + Int32.ofInt c)], z_set1 lo a (.int (x + Int32.ofInt c)), st, h, ?_, zRx.app, T, E', Mm.mono zRx.app, zset1_ok E' (L.mono zRx.app) (E.new _), S.mono zRx.app, zFm.rf⟩
  unfold zo_iinc
  rw [h2]
noncomputable def zbs (o : Nat) (x y : Nat) (ex ey : zEn) (r : zA) : zEn :=
  if o = 8 ∧ ey.1.2.1 = ey.1.2.2 then zoff x ex ey.1.2.1 else if o = 8 ∧ ex.1.2.1 = ex.1.2.2 then zoff y ey ex.1.2.1 else if o = 9 ∧ ey.1.2.1 = ey.1.2.2 then zoff x ex (-ey.1.2.1) else (r, 0, 0)
noncomputable def zq_bin (o : Nat) : zQop := fun _ _ _ _ _ _ q => match q.2.2.2 with
  | y :: x :: stk => (match q.1[x]?, q.1[y]? with
    | some ex, some ey => if ex.1.1 = 0 ∧ ey.1.1 = 0 then (match zar o ex.1.2.1 ex.1.2.2 ey.1.2.1 ey.1.2.2 with
      | some r => some (zPu q stk (zbs o x y ex ey r))
      | none => none) else none
    | _, _ => none)
  | _ => none
theorem zSd_bin {op : zNop} (o : Nat) (hop : ∀ (sx : zX) (d a b : Nat) (c : Int) (k : Nat) (lo : zL) (x y : Int32) (st : List Value) (h : zH), ((o = 11 ∨ o = 12) → y ≠ 0) → op sx d a b c k lo (.int y :: .int x :: st) h = zn (k + 1) lo (.int (zop2 o x y) :: st) h) : zSd op (zq_bin o) := by
  intro tt sx dq d ms a b c k ty ρ q q' lo st h hd T E Mm L S hq
  unfold zq_bin at hq
  split at hq
  case h_2 => cases hq
  next iy ix stk hs =>
  rw [hs] at S
  match st, S with
  | vy :: vx :: st, S =>
  obtain ⟨s1, s2, s3⟩ := S
  split at hq
  case h_2 => cases hq
  next ex ey hx hy =>
  split at hq
  case isFalse => cases hq
  next hc =>
  split at hq
  case h_2 => cases hq
  next r hr =>
  cases hq
  obtain ⟨x, rfl, x1, x2⟩ := zG0 (E.2 ix ex vx hx s2).1 hc.1
  obtain ⟨y, rfl, y1, y2⟩ := zG0 (E.2 iy ey vy hy s1).1 hc.2
  obtain ⟨g, hne⟩ := zar_ok (ty := ty) hr x1 x2 y1 y2
  have key : zG ty (zbs o ix iy ex ey r).1 (.int (zop2 o x y)) ∧ ∀ b, (zbs o ix iy ex ey r).2.1 = b + 1 → ∃ x9 y9 : Int32, Value.int (zop2 o x y) = .int x9 ∧ ρ[b]? = some (.int y9) ∧ x9.toInt = y9.toInt + (zbs o ix iy ex ey r).2.2 := by
    unfold zbs
    by_cases c1 : o = 8 ∧ ey.1.2.1 = ey.1.2.2
    · rw [if_pos c1]
      obtain ⟨rfl, c1⟩ := c1
      exact zoff_ok E hx s2 hc.1 (by show (x + y).toInt = _; rw [Int32.toInt_add]; congr 2; omega)
    rw [if_neg c1]
    by_cases c2 : o = 8 ∧ ex.1.2.1 = ex.1.2.2
    · rw [if_pos c2]
      obtain ⟨rfl, c2⟩ := c2
      exact zoff_ok E hy s1 hc.2 (by show (x + y).toInt = _; rw [Int32.toInt_add]; congr 1; omega)
    rw [if_neg c2]
    by_cases c3 : o = 9 ∧ ey.1.2.1 = ey.1.2.2
    · rw [if_pos c3]
      obtain ⟨rfl, c3⟩ := c3
      exact zoff_ok E hx s2 hc.1 (by show (x - y).toInt = _; rw [Int32.toInt_sub]; congr 1; omega)
    rw [if_neg c3]
    exact ⟨g, fun b hb => by cases hb⟩
  obtain ⟨r1, r2, r3, r4, r5⟩ := zPu_ok (q := q) (stk := stk) E Mm L s3 key.1 key.2
  exact ⟨_, _, _, _, hop sx d a b c k lo x y st h hne, r1, T, r2, r3, r4, r5, zFm.rf⟩
theorem zSd_iadd : zSd zo_iadd (zq_bin 8) := zSd_bin 8 (fun _ _ _ _ _ _ _ _ _ _ _ _ => rfl)
theorem zSd_isub : zSd zo_isub (zq_bin 9) := zSd_bin 9 (fun _ _ _ _ _ _ _ _ _ _ _ _ => rfl)
theorem zSd_imul : zSd zo_imul (zq_bin 10) := zSd_bin 10 (fun _ _ _ _ _ _ _ _ _ _ _ _ => rfl)
theorem zSd_idiv : zSd zo_idiv (zq_bin 11) := zSd_bin 11 (fun sx d a b c k lo x y st h hn => by unfold zo_idiv; exact if_neg (hn (Or.inl rfl)))
theorem zSd_irem : zSd zo_irem (zq_bin 12) := zSd_bin 12 (fun sx d a b c k lo x y st h hn => by unfold zo_irem; exact if_neg (hn (Or.inr rfl)))
theorem zSd_ishl : zSd zo_ishl (zq_bin 13) := zSd_bin 13 (fun _ _ _ _ _ _ _ _ _ _ _ _ => rfl)
theorem zSd_ishr : zSd zo_ishr (zq_bin 14) := zSd_bin 14 (fun _ _ _ _ _ _ _ _ _ _ _ _ => rfl)
theorem zSd_iushr : zSd zo_iushr (zq_bin 15) := zSd_bin 15 (fun _ _ _ _ _ _ _ _ _ _ _ _ => rfl)
theorem zSd_iand : zSd zo_iand (zq_bin 16) := zSd_bin 16 (fun _ _ _ _ _ _ _ _ _ _ _ _ => rfl)
theorem zSd_ior : zSd zo_ior (zq_bin 17) := zSd_bin 17 (fun _ _ _ _ _ _ _ _ _ _ _ _ => rfl)
theorem zSd_ixor : zSd zo_ixor (zq_bin 18) := zSd_bin 18 (fun _ _ _ _ _ _ _ _ _ _ _ _ => rfl)
/-! one value makes one -/
noncomputable def zq_un (f : zA → Option zA) : zQop := fun _ _ _ _ _ _ q => match q.2.2.2 with
  | x :: stk => (match f (zav q.1 x) with
    | some r => some (zPu q stk (r, 0, 0))
    | none => none)
  | _ => none
theorem zSd_un {op : zNop} {f : zA → Option zA} (hop : ∀ (sx : zX) (d a b : Nat) (c : Int) (k : Nat) (lo : zL) (v : Value) (st : List Value) (h : zH) (ty : List Nat) (w r : zA), zG ty w v → f w = some r → ∃ v', zG ty r v' ∧ op sx d a b c k lo (v :: st) h = zn (k + 1) lo (v' :: st) h) : zSd op (zq_un f) := by
  intro tt sx dq d ms a b c k ty ρ q q' lo st h hd T E Mm L S hq
  unfold zq_un at hq
  split at hq
  case h_2 => cases hq
  next ix stk hs =>
  rw [hs] at S
  match st, S with
  | vx :: st, S =>
  obtain ⟨s1, s2⟩ := S
  split at hq
  case h_2 => cases hq
  next r hr =>
  cases hq
  obtain ⟨v', g, ho⟩ := hop sx d a b c k lo vx st h ty _ r (E.at s1) hr
  obtain ⟨r1, r2, r3, r4, r5⟩ := zPu0 (q := q) (stk := stk) E Mm L s2 g
  exact ⟨_, _, _, _, ho, r1, T, r2, r3, r4, r5, zFm.rf⟩
noncomputable def zf_i2l (a : zA) : Option zA := if a.1 = 0 then some (1, a.2.1, a.2.2) else none
noncomputable def zf_l2i (a : zA) : Option zA := if a.1 = 1 then some zFull else none
noncomputable def zf_i2b (a : zA) : Option zA := if a.1 = 0 then some zFull else none
theorem zSd_i2l : zSd zo_i2l (zq_un zf_i2l) := zSd_un (fun sx d a b c k lo v st h ty w r g hr => by
  unfold zf_i2l at hr
  split at hr
  case isFalse => cases hr
  next h0 =>
  cases hr
  obtain ⟨x, rfl, x1, x2⟩ := zG0 g h0
  exact ⟨_, ⟨x.toInt64, rfl, by rw [Int32.toInt_toInt64]; exact x1, by rw [Int32.toInt_toInt64]; exact x2⟩, rfl⟩)
theorem zSd_l2i : zSd zo_l2i (zq_un zf_l2i) := zSd_un (fun sx d a b c k lo v st h ty w r g hr => by
  unfold zf_l2i at hr
  split at hr
  case isFalse => cases hr
  next h0 =>
  cases hr
  obtain ⟨x, rfl, x1, x2⟩ := zG1 g h0
  exact ⟨_, zFull_ok _, rfl⟩)
theorem zSd_i2b : zSd zo_i2b (zq_un zf_i2b) := zSd_un (fun sx d a b c k lo v st h ty w r g hr => by
  unfold zf_i2b at hr
  split at hr
  case isFalse => cases hr
  next h0 =>
  cases hr
  obtain ⟨x, rfl, x1, x2⟩ := zG0 g h0
  exact ⟨_, zFull_ok _, rfl⟩)
/-! two values make one -/
noncomputable def zq_bi (f : zA → zA → Option zA) : zQop := fun _ _ _ _ _ _ q => match q.2.2.2 with
  | y :: x :: stk => (match f (zav q.1 x) (zav q.1 y) with
    | some r => some (zPu q stk (r, 0, 0))
    | none => none)
  | _ => none
theorem zSd_bi {op : zNop} {f : zA → zA → Option zA} (hop : ∀ (sx : zX) (d a b : Nat) (c : Int) (k : Nat) (lo : zL) (v u : Value) (st : List Value) (h : zH) (ty : List Nat) (w z r : zA), zG ty w v → zG ty z u → f w z = some r → ∃ v', zG ty r v' ∧ op sx d a b c k lo (u :: v :: st) h = zn (k + 1) lo (v' :: st) h) : zSd op (zq_bi f) := by
  intro tt sx dq d ms a b c k ty ρ q q' lo st h hd T E Mm L S hq
  unfold zq_bi at hq
  split at hq
  case h_2 => cases hq
  next iy ix stk hs =>
  rw [hs] at S
  match st, S with
  | vy :: vx :: st, S =>
  obtain ⟨s1, s2, s3⟩ := S
  split at hq
  case h_2 => cases hq
  next r hr =>
  cases hq
  obtain ⟨v', g, ho⟩ := hop sx d a b c k lo vx vy st h ty _ _ r (E.at s2) (E.at s1) hr
  obtain ⟨r1, r2, r3, r4, r5⟩ := zPu0 (q := q) (stk := stk) E Mm L s3 g
  exact ⟨_, _, _, _, ho, r1, T, r2, r3, r4, r5, zFm.rf⟩
noncomputable def zLfull : zA := (1, -9223372036854775808, 9223372036854775807)
theorem zLfull_ok {ty : List Nat} (x : Int64) : zG ty zLfull (.long x) := ⟨x, rfl, (zb64 x).1, (zb64 x).2⟩
noncomputable def zf_ladd (x y : zA) : Option zA := if x.1 = 1 ∧ y.1 = 1 then some zLfull else none
noncomputable def zf_lmul (x y : zA) : Option zA := if x.1 = 1 ∧ y.1 = 1 then some (zlw (zmin4 (x.2.1 * y.2.1) (x.2.1 * y.2.2) (x.2.2 * y.2.1) (x.2.2 * y.2.2)) (zmax4 (x.2.1 * y.2.1) (x.2.1 * y.2.2) (x.2.2 * y.2.1) (x.2.2 * y.2.2))) else none
noncomputable def zf_ldiv (x y : zA) : Option zA := if x.1 = 1 ∧ y.1 = 1 ∧ (0 < y.2.1 ∨ y.2.2 < 0) then some zLfull else none
noncomputable def zf_lcmp (x y : zA) : Option zA := if x.1 = 1 ∧ y.1 = 1 then some (0, -1, 1) else none
theorem zSd_ladd : zSd zo_ladd (zq_bi zf_ladd) := zSd_bi (fun sx d a b c k lo v u st h ty w z r g1 g2 hr => by
  unfold zf_ladd at hr
  split at hr
  case isFalse => cases hr
  next h0 =>
  cases hr
  obtain ⟨x, rfl, x1, x2⟩ := zG1 g1 h0.1
  obtain ⟨y, rfl, y1, y2⟩ := zG1 g2 h0.2
  exact ⟨_, zLfull_ok _, rfl⟩)
theorem zSd_lmul : zSd zo_lmul (zq_bi zf_lmul) := zSd_bi (fun sx d a b c k lo v u st h ty w z r g1 g2 hr => by
  unfold zf_lmul at hr
  split at hr
  case isFalse => cases hr
  next h0 =>
  cases hr
  obtain ⟨x, rfl, x1, x2⟩ := zG1 g1 h0.1
  obtain ⟨y, rfl, y1, y2⟩ := zG1 g2 h0.2
  refine ⟨_, ?_, rfl⟩
  obtain ⟨k1, k2⟩ := zmul_bd x1 x2 y1 y2
  unfold zlw
  split
  · next hc =>
    have e1 : zLn = -9223372036854775808 := rfl
    have e2 : zLx = 9223372036854775807 := rfl
    have e : (x * y).toInt = x.toInt * y.toInt := by rw [Int64.toInt_mul]; exact z_bm64 (by omega) (by omega)
    exact ⟨_, rfl, by rw [e]; exact k1, by rw [e]; exact k2⟩
  · exact zLfull_ok _)
theorem zSd_ldiv : zSd zo_ldiv (zq_bi zf_ldiv) := zSd_bi (fun sx d a b c k lo v u st h ty w z r g1 g2 hr => by
  unfold zf_ldiv at hr
  split at hr
  case isFalse => cases hr
  next h0 =>
  cases hr
  obtain ⟨x, rfl, x1, x2⟩ := zG1 g1 h0.1
  obtain ⟨y, rfl, y1, y2⟩ := zG1 g2 h0.2.1
  refine ⟨.long (x / y), zLfull_ok _, ?_⟩
  have hne : ¬ y = 0 := fun e => by
    rw [e] at y1 y2
    rw [show (0 : Int64).toInt = 0 from rfl] at y1 y2
    omega
  unfold zo_ldiv
  exact if_neg hne)
theorem zSd_lcmp : zSd zo_lcmp (zq_bi zf_lcmp) := zSd_bi (fun sx d a b c k lo v u st h ty w z r g1 g2 hr => by
  unfold zf_lcmp at hr
  split at hr
  case isFalse => cases hr
  next h0 =>
  cases hr
  obtain ⟨x, rfl, x1, x2⟩ := zG1 g1 h0.1
  obtain ⟨y, rfl, y1, y2⟩ := zG1 g2 h0.2
  refine ⟨_, ?_, rfl⟩
  unfold lg_cmp
  split
  · exact ⟨1, rfl, by decide, by decide⟩
  · split
    · exact ⟨0, rfl, by decide, by decide⟩
    · exact ⟨-1, rfl, by decide, by decide⟩)
noncomputable def zq_lconst : zQop := fun _ _ _ _ _ c q => if zLn ≤ c ∧ c ≤ zLx then some (zPu q q.2.2.2 ((1, c, c), 0, 0)) else none
theorem zSd_lconst : zSd zo_lconst zq_lconst := by
  intro tt sx dq d ms a b c k ty ρ q q' lo st h hd T E Mm L S hq
  unfold zq_lconst at hq
  split at hq
  case isFalse => cases hq
  next hc =>
  cases hq
  have e1 : zLn = -9223372036854775808 := rfl
  have e2 : zLx = 9223372036854775807 := rfl
  have e := z_of64 (n := c) (by omega) (by omega)
  obtain ⟨r1, r2, r3, r4, r5⟩ := zPu0 (v := .long (Int64.ofInt c)) E Mm L S (a := (1, c, c)) ⟨_, rfl, by rw [e]; exact Int.le_refl _, by rw [e]; exact Int.le_refl _⟩
  exact ⟨_, _, _, _, rfl, r1, T, r2, r3, r4, r5, zFm.rf⟩
noncomputable def zq_null : zQop := fun _ _ _ _ _ _ q => some (zPu q q.2.2.2 ((4, 0, 0), 0, 0))
theorem zSd_null : zSd zo_null zq_null := by
  intro tt sx dq d ms a b c k ty ρ q q' lo st h hd T E Mm L S hq
  cases hq
  obtain ⟨r1, r2, r3, r4, r5⟩ := zPu0 (v := .null) E Mm L S (a := (4, 0, 0)) rfl
  exact ⟨_, _, _, _, rfl, r1, T, r2, r3, r4, r5, zFm.rf⟩
noncomputable def zq_ldcs : zQop := fun _ _ _ a _ _ q => if a < z_strs.length then some (zPu q q.2.2.2 ((5, (a : Int), (a : Int)), 0, 0)) else none
theorem zSd_ldcs : zSd zo_ldcs zq_ldcs := by
  intro tt sx dq d ms a b c k ty ρ q q' lo st h hd T E Mm L S hq
  unfold zq_ldcs at hq
  split at hq
  case isFalse => cases hq
  next hc =>
  cases hq
  obtain ⟨r1, r2, r3, r4, r5⟩ := zPu0 (v := .ref (zB + a)) E Mm L S (a := (5, (a : Int), (a : Int))) rfl
  exact ⟨_, _, _, _, by unfold zo_ldcs; exact if_pos hc, r1, T, r2, r3, r4, r5, zFm.rf⟩
/-! the stack -/
noncomputable def zq_dup : zQop := fun _ _ _ _ _ _ q => match q.2.2.2 with
  | x :: stk => if (zav q.1 x).1 ≠ 1 then some (q.1, q.2.1, q.2.2.1, x :: x :: stk) else none
  | _ => none
theorem zSd_dup : zSd zo_dup zq_dup := by
  intro tt sx dq d ms a b c k ty ρ q q' lo st h hd T E Mm L S hq
  unfold zq_dup at hq
  split at hq
  case h_2 => cases hq
  next ix stk hs =>
  rw [hs] at S
  match st, S with
  | vx :: st, S =>
  split at hq
  case isFalse => cases hq
  next hc =>
  cases hq
  have hcat := zGcat (E.at S.1)
  rw [if_neg hc] at hcat
  exact ⟨ρ, lo, vx :: vx :: st, h, by unfold zo_dup; exact if_pos hcat, zRx.rf, T, E, Mm, L, ⟨S.1, S.1, S.2⟩, zFm.rf⟩
noncomputable def zq_dup2 : zQop := fun _ _ _ _ _ _ q => match q.2.2.2 with
  | x :: y :: stk => if (zav q.1 x).1 ≠ 1 ∧ (zav q.1 y).1 ≠ 1 then some (q.1, q.2.1, q.2.2.1, x :: y :: x :: y :: stk) else none
  | _ => none
theorem zSd_dup2 : zSd zo_dup2 zq_dup2 := by
  intro tt sx dq d ms a b c k ty ρ q q' lo st h hd T E Mm L S hq
  unfold zq_dup2 at hq
  split at hq
  case h_2 => cases hq
  next ix iy stk hs =>
  rw [hs] at S
  match st, S with
  | vx :: vy :: st, S =>
  split at hq
  case isFalse => cases hq
  next hc =>
  cases hq
  have h1 := zGcat (E.at S.1)
  rw [if_neg hc.1] at h1
  have h2 := zGcat (E.at S.2.1)
  rw [if_neg hc.2] at h2
  exact ⟨ρ, lo, vx :: vy :: vx :: vy :: st, h, by unfold zo_dup2; exact if_pos ⟨h1, h2⟩, zRx.rf, T, E, Mm, L, ⟨S.1, S.2.1, S.1, S.2⟩, zFm.rf⟩
noncomputable def zq_pop : zQop := fun _ _ _ _ _ _ q => match q.2.2.2 with
  | x :: stk => if (zav q.1 x).1 ≠ 1 then some (q.1, q.2.1, q.2.2.1, stk) else none
  | _ => none
theorem zSd_pop : zSd zo_pop zq_pop := by
  intro tt sx dq d ms a b c k ty ρ q q' lo st h hd T E Mm L S hq
  unfold zq_pop at hq
  split at hq
  case h_2 => cases hq
  next ix stk hs =>
  rw [hs] at S
  match st, S with
  | vx :: st, S =>
  split at hq
  case isFalse => cases hq
  next hc =>
  cases hq
  have hcat := zGcat (E.at S.1)
  rw [if_neg hc] at hcat
  exact ⟨ρ, lo, st, h, by unfold zo_pop; exact if_pos hcat, zRx.rf, T, E, Mm, L, S.2, zFm.rf⟩
