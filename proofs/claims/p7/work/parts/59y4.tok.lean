/-! the reference's reader, exact; printed with wip/gen/gen_t1.py -/
theorem cm0t {x y : Int32} (h : z_cmp 0 x y = true) : x.toInt = y.toInt := zcmp_eq.mp h
theorem cm0f {x y : Int32} (h : z_cmp 0 x y = false) : x.toInt ≠ y.toInt := fun e => by rw [zcmp_eq.mpr e] at h; cases h
theorem cm1t {x y : Int32} (h : z_cmp 1 x y = true) : x.toInt ≠ y.toInt := zcmp_ne.mp h
theorem cm1f {x y : Int32} (h : z_cmp 1 x y = false) : x.toInt = y.toInt := Decidable.byContradiction fun e => by rw [zcmp_ne.mpr e] at h; cases h
theorem cm2t {x y : Int32} (h : z_cmp 2 x y = true) : x.toInt < y.toInt := zcmp_lt.mp h
theorem cm2f {x y : Int32} (h : z_cmp 2 x y = false) : x.toInt ≥ y.toInt := Int.not_lt.mp fun e => by rw [zcmp_lt.mpr e] at h; cases h
theorem cm3t {x y : Int32} (h : z_cmp 3 x y = true) : x.toInt ≥ y.toInt := zcmp_ge.mp h
theorem cm3f {x y : Int32} (h : z_cmp 3 x y = false) : x.toInt < y.toInt := Int.not_le.mp fun e => by rw [zcmp_ge.mpr e] at h; cases h
theorem cm4t {x y : Int32} (h : z_cmp 4 x y = true) : x.toInt > y.toInt := cm2t (x := y) (y := x) h
theorem cm4f {x y : Int32} (h : z_cmp 4 x y = false) : x.toInt ≤ y.toInt := cm2f (x := y) (y := x) h
theorem cm5t {x y : Int32} (h : z_cmp 5 x y = true) : x.toInt ≤ y.toInt := cm3t (x := y) (y := x) h
theorem cm5f {x y : Int32} (h : z_cmp 5 x y = false) : x.toInt > y.toInt := cm3f (x := y) (y := x) h
theorem q_inp {j : Int32} {n : Nat} (h : z_in j n = true) : 0 ≤ j.toInt ∧ j.toInt < (n : Int) := by
  have h1 := z_inp h
  unfold z_in at h
  rw [Bool.not_eq_true', Bool.or_eq_false_iff, decide_eq_false_iff_not, decide_eq_false_iff_not, Int32.lt_iff_toInt_lt] at h
  have e : j.toNatClampNeg = j.toInt.toNat := rfl
  have e0 : (0 : Int32).toInt = 0 := rfl
  omega
noncomputable def q_f (σ : zSg) (c b : Nat) : Int32 := q_i (σ.1 c b)
noncomputable def q_p (σ : zSg) (c b : Nat) : Nat := q_r (σ.1 c b)
theorem q_ii (x : Int32) : q_i (.int x) = x := rfl
theorem q_w_at (σ : zSg) (c k : Nat) (v : Value) : (q_w σ c k v).1 c k = v := by
  show q_up σ.1 c k v c k = v
  unfold q_up
  rw [if_pos ⟨rfl, rfl⟩]
theorem q_w_ne {σ : zSg} {c k c' k' : Nat} {v : Value} (h : c' = c → k' = k → False) : (q_w σ c k v).1 c' k' = σ.1 c' k' := by
  show q_up σ.1 c k v c' k' = σ.1 c' k'
  unfold q_up
  rw [if_neg (fun q => h q.1 q.2)]
theorem q_w_2 (σ : zSg) (c k : Nat) (v : Value) : (q_w σ c k v).2 = σ.2 := rfl
theorem q_w_w {σ : zSg} {c k : Nat} {v w : Value} : q_w (q_w σ c k v) c k w = q_w σ c k w := by
  refine Prod.ext ?_ rfl
  funext c' k'
  show q_up (q_up σ.1 c k v) c k w c' k' = q_up σ.1 c k w c' k'
  unfold q_up
  by_cases h : c' = c ∧ k' = k
  · rw [if_pos h, if_pos h]
  · rw [if_neg h, if_neg h, if_neg h]
theorem q_w_cm {σ : zSg} {c k c' k' : Nat} {v w : Value} (h : c' = c → k' = k → False) : q_w (q_w σ c k v) c' k' w = q_w (q_w σ c' k' w) c k v := by
  refine Prod.ext ?_ rfl
  funext d e
  show q_up (q_up σ.1 c k v) c' k' w d e = q_up (q_up σ.1 c' k' w) c k v d e
  unfold q_up
  by_cases h1 : d = c' ∧ e = k'
  · rw [if_pos h1, if_neg (fun q => h (h1.1.symm.trans q.1) (h1.2.symm.trans q.2)), if_pos h1]
  · rw [if_neg h1, if_neg h1]
theorem q_w_id {σ : zSg} {c k : Nat} {v : Value} (h : σ.1 c k = v) : q_w σ c k v = σ := by
  refine Prod.ext ?_ rfl
  funext d e
  show q_up σ.1 c k v d e = σ.1 d e
  unfold q_up
  by_cases h1 : d = c ∧ e = k
  · rw [if_pos h1, h1.1, h1.2, h]
  · rw [if_neg h1]
/-- the reader of the reference: its point, begin -/
noncomputable def q_rs (σ : zSg) (a P Q : Nat) : zSg := q_w (q_w σ a 10 (.int (Int32.ofNat P))) a 12 (.int (Int32.ofNat Q))
noncomputable def rb (σ : zSg) (a k : Nat) : Int := (q_i (σ.1 (q_r (σ.1 a 8)) k)).toInt
noncomputable def rS (σ : zSg) (a P E : Nat) : Prop := q_r (σ.1 a 8) ≠ a ∧ σ.1 a 10 = .int (Int32.ofNat P) ∧ σ.1 a 11 = .int (Int32.ofNat E) ∧ P ≤ E ∧ E ≤ 400
theorem o32 {n : Nat} (h : n ≤ 1000) : (Int32.ofNat n).toInt = (n : Int) := zofNat h
theorem o32i {n : Nat} (h : n ≤ 900) : Int32.ofNat n + Int32.ofInt 1 = Int32.ofNat (n + 1) := by
  refine Int32.toInt_inj.mp ?_
  rw [zI_add (o32 (by omega)) (zI_c (by omega) (by omega)) (by omega) (by omega), o32 (by omega)]
  omega
theorem o32n {n : Nat} (h : n ≤ 1000) : (Int32.ofNat n).toNatClampNeg = n := znat (o32 h)
section RTK
variable {σ : zSg} {a P E Q : Nat} {v : Value}
theorem rb_w {k : Nat} (h : q_r (σ.1 a 8) ≠ a) (hk : k ≠ 8) : rb (q_w σ a k v) a = rb σ a := by
  funext i
  unfold rb
  rw [q_w_ne (c' := a) (k' := 8) (fun _ q => hk q.symm), q_w_ne (fun q _ => h q)]
theorem rS.pt (H : rS σ a P E) {K : Nat} (hK : K ≤ E) : rS (q_w σ a 10 (.int (Int32.ofNat K))) a K E := by
  obtain ⟨h1, h2, h3, h4, h5⟩ := H
  refine ⟨?_, q_w_at _ _ _ _, ?_, hK, h5⟩
  · rw [q_w_ne (fun _ q => by omega)]; exact h1
  · rw [q_w_ne (fun _ q => by omega)]; exact h3
theorem rS.bg (H : rS σ a P E) : rS (q_w σ a 12 v) a P E := by
  obtain ⟨h1, h2, h3, h4, h5⟩ := H
  refine ⟨?_, ?_, ?_, h4, h5⟩
  · rw [q_w_ne (fun _ q => by omega)]; exact h1
  · rw [q_w_ne (fun _ q => by omega)]; exact h2
  · rw [q_w_ne (fun _ q => by omega)]; exact h3
theorem rS.rs (H : rS σ a P E) {K Q : Nat} (hK : K ≤ E) : rS (q_rs σ a K Q) a K E := (H.pt hK).bg
theorem rb_rs {K : Nat} (H : rS σ a P E) : rb (q_rs σ a K Q) a = rb σ a := by
  unfold q_rs
  rw [rb_w (by rw [q_w_ne (fun _ q => by omega)]; exact H.1) (by omega), rb_w H.1 (by omega)]
theorem q_rs_rs {K L : Nat} : q_rs (q_rs σ a K L) a P Q = q_rs σ a P Q := by
  unfold q_rs
  rw [q_w_cm (σ := q_w σ a 10 (.int (Int32.ofNat K))) (c := a) (k := 12) (c' := a) (k' := 10) (fun _ q => by omega), q_w_w, q_w_w]
theorem q_rs_pt {K L : Nat} : q_w (q_rs σ a K L) a 10 (.int (Int32.ofNat P)) = q_rs σ a P L := by
  unfold q_rs
  rw [q_w_cm (fun _ q => by omega), q_w_w]
theorem q_rs_12 {K : Nat} : (q_rs σ a K Q).1 a 12 = .int (Int32.ofNat Q) := q_w_at _ _ _ _
theorem q_rs_10 {K : Nat} : (q_rs σ a K Q).1 a 10 = .int (Int32.ofNat K) := by
  unfold q_rs
  rw [q_w_ne (fun _ q => by omega), q_w_at]
end RTK
/-! a tape as a text, and the grammar of a law's text as functions of places: b the byte at a place, E the text's length; a place stands behind blanks -/
noncomputable def zrn (b : Nat → Int) (E : Nat) (lo hi : Int) : Nat → Nat → Nat
  | 0, P => P
  | n + 1, P => if P < E ∧ lo ≤ b P ∧ b P ≤ hi then zrn b E lo hi n (P + 1) else P
/-- the first place from P on whose byte isn't between -/
noncomputable def zRn (b : Nat → Int) (E : Nat) (lo hi : Int) (P : Nat) : Nat := zrn b E lo hi (E - P) P
section ZPU
variable {b : Nat → Int} {E : Nat} {lo hi : Int} {P : Nat}
theorem zRn_t (h : P < E ∧ lo ≤ b P ∧ b P ≤ hi) : zRn b E lo hi P = zRn b E lo hi (P + 1) := by
  unfold zRn
  rw [show E - P = (E - (P + 1)) + 1 by omega, zrn, if_pos h]
theorem zRn_f (h : ¬ (P < E ∧ lo ≤ b P ∧ b P ≤ hi)) : zRn b E lo hi P = P := by
  unfold zRn
  cases hn : E - P with
  | zero => rfl
  | succ n => rw [zrn, if_neg h]
theorem zRn_all : ∀ (n P : Nat), E - P = n → P ≤ zRn b E lo hi P ∧ (∀ k, P ≤ k → k < zRn b E lo hi P → k < E ∧ lo ≤ b k ∧ b k ≤ hi) ∧ ¬ (zRn b E lo hi P < E ∧ lo ≤ b (zRn b E lo hi P) ∧ b (zRn b E lo hi P) ≤ hi)
  | n, P, hn => by
    by_cases h : P < E ∧ lo ≤ b P ∧ b P ≤ hi
    · rw [zRn_t h]
      match n, hn with
      | 0, hn => omega
      | n + 1, hn =>
      obtain ⟨i1, i2, i3⟩ := zRn_all n (P + 1) (by omega)
      refine ⟨by omega, fun k h1 h2 => ?_, i3⟩
      by_cases hk : k = P
      · rw [hk]; exact h
      · exact i2 k (by omega) h2
    · rw [zRn_f h]
      exact ⟨Nat.le_refl _, fun k h1 h2 => absurd h1 (by omega), h⟩
theorem zRn_ge : P ≤ zRn b E lo hi P := (zRn_all _ P rfl).1
theorem zRn_in {k : Nat} (h1 : P ≤ k) (h2 : k < zRn b E lo hi P) : k < E ∧ lo ≤ b k ∧ b k ≤ hi := (zRn_all _ P rfl).2.1 k h1 h2
theorem zRn_end : ¬ (zRn b E lo hi P < E ∧ lo ≤ b (zRn b E lo hi P) ∧ b (zRn b E lo hi P) ≤ hi) := (zRn_all _ P rfl).2.2
theorem zRn_le (h : P ≤ E) : zRn b E lo hi P ≤ E := by
  by_cases hq : zRn b E lo hi P ≤ E
  · exact hq
  · have := zRn_in (b := b) (E := E) (lo := lo) (hi := hi) (P := P) (k := E) h (by omega)
    omega
theorem zRn_uniq {K : Nat} (h1 : P ≤ K) (h2 : ∀ k, P ≤ k → k < K → k < E ∧ lo ≤ b k ∧ b k ≤ hi) (h3 : ¬ (K < E ∧ lo ≤ b K ∧ b K ≤ hi)) : zRn b E lo hi P = K := by
  have g1 := zRn_ge (b := b) (E := E) (lo := lo) (hi := hi) (P := P)
  by_cases q : zRn b E lo hi P = K
  · exact q
  · by_cases q2 : zRn b E lo hi P < K
    · exact absurd (h2 _ g1 q2) zRn_end
    · exact absurd (zRn_in (b := b) (E := E) (lo := lo) (hi := hi) h1 (by omega)) h3
end ZPU
noncomputable def zBl (b : Nat → Int) (E P : Nat) : Nat := zRn b E 32 32 P
noncomputable def zDv (b : Nat → Int) (A : Nat) : Nat → Int
  | 0 => 0
  | n + 1 => if n < 3 then 10 * zDv b A n + b (A + n) - 48 else zDv b A n
noncomputable def p_201 (a : Nat) (lo hi : Int32) (σ : zSg) (r : Int32) (σ' : zSg) : Prop := σ' = σ ∧ ∀ P E, rS σ a P E → r = if P < E ∧ lo.toInt ≤ rb σ a P ∧ rb σ a P ≤ hi.toInt then 1 else 0
theorem p_201.t {a : Nat} {lo hi r : Int32} {σ σ' : zSg} (H : p_201 a lo hi σ r σ') {P E : Nat} (S : rS σ a P E) (h : r.toInt ≠ 0) : P < E ∧ lo.toInt ≤ rb σ a P ∧ rb σ a P ≤ hi.toInt := by
  by_cases hc : P < E ∧ lo.toInt ≤ rb σ a P ∧ rb σ a P ≤ hi.toInt
  · exact hc
  · have := H.2 P E S
    rw [if_neg hc] at this
    rw [this] at h
    exact absurd rfl h
theorem p_201.f {a : Nat} {lo hi r : Int32} {σ σ' : zSg} (H : p_201 a lo hi σ r σ') {P E : Nat} (S : rS σ a P E) (h : r.toInt = 0) : ¬ (P < E ∧ lo.toInt ≤ rb σ a P ∧ rb σ a P ≤ hi.toInt) := by
  intro hc
  have := H.2 P E S
  rw [if_pos hc] at this
  rw [this] at h
  exact absurd h (by decide)
theorem sp_201_et (a0 : Nat) (a1 : Int32) (a2 : Int32) (σ : zSg) (h1 : (q_i (σ.1 a0 10)).toInt ≥ (q_i (σ.1 a0 11)).toInt) :
    p_201 (a0) (a1) (a2) σ (Int32.ofInt (0)) σ := by
  refine ⟨rfl, fun P E S => ?_⟩
  obtain ⟨s1, s2, s3, s4, s5⟩ := S
  have hb : rb σ a0 P = (q_i (σ.1 (q_r (σ.1 a0 8)) P)).toInt := rfl
  simp only [s2, s3, q_ii, o32n (show P ≤ 1000 by omega), o32 (show P ≤ 1000 by omega), o32 (show E ≤ 1000 by omega)] at *
  first
    | rw [if_pos (by omega)]; rfl
    | rw [if_neg (by omega)]; rfl
theorem sp_201_eft (a0 : Nat) (a1 : Int32) (a2 : Int32) (σ : zSg) (h1 : (q_i (σ.1 a0 10)).toInt < (q_i (σ.1 a0 11)).toInt) (h2 : 0 ≤ (q_i (σ.1 a0 10)).toInt ∧ (q_i (σ.1 a0 10)).toInt < (σ.2.1 (q_r (σ.1 a0 8)) : Int)) (h3 : (q_i (σ.1 (q_r (σ.1 a0 8)) (q_i (σ.1 a0 10)).toNatClampNeg)).toInt < a1.toInt) :
    p_201 (a0) (a1) (a2) σ (Int32.ofInt (0)) σ := by
  refine ⟨rfl, fun P E S => ?_⟩
  obtain ⟨s1, s2, s3, s4, s5⟩ := S
  have hb : rb σ a0 P = (q_i (σ.1 (q_r (σ.1 a0 8)) P)).toInt := rfl
  simp only [s2, s3, q_ii, o32n (show P ≤ 1000 by omega), o32 (show P ≤ 1000 by omega), o32 (show E ≤ 1000 by omega)] at *
  first
    | rw [if_pos (by omega)]; rfl
    | rw [if_neg (by omega)]; rfl
theorem sp_201_efft (a0 : Nat) (a1 : Int32) (a2 : Int32) (σ : zSg) (h1 : (q_i (σ.1 a0 10)).toInt < (q_i (σ.1 a0 11)).toInt) (h2 : 0 ≤ (q_i (σ.1 a0 10)).toInt ∧ (q_i (σ.1 a0 10)).toInt < (σ.2.1 (q_r (σ.1 a0 8)) : Int)) (h3 : (q_i (σ.1 (q_r (σ.1 a0 8)) (q_i (σ.1 a0 10)).toNatClampNeg)).toInt ≥ a1.toInt) (h4 : 0 ≤ (q_i (σ.1 a0 10)).toInt ∧ (q_i (σ.1 a0 10)).toInt < (σ.2.1 (q_r (σ.1 a0 8)) : Int)) (h5 : (q_i (σ.1 (q_r (σ.1 a0 8)) (q_i (σ.1 a0 10)).toNatClampNeg)).toInt > a2.toInt) :
    p_201 (a0) (a1) (a2) σ (Int32.ofInt (0)) σ := by
  refine ⟨rfl, fun P E S => ?_⟩
  obtain ⟨s1, s2, s3, s4, s5⟩ := S
  have hb : rb σ a0 P = (q_i (σ.1 (q_r (σ.1 a0 8)) P)).toInt := rfl
  simp only [s2, s3, q_ii, o32n (show P ≤ 1000 by omega), o32 (show P ≤ 1000 by omega), o32 (show E ≤ 1000 by omega)] at *
  first
    | rw [if_pos (by omega)]; rfl
    | rw [if_neg (by omega)]; rfl
theorem sp_201_efff (a0 : Nat) (a1 : Int32) (a2 : Int32) (σ : zSg) (h1 : (q_i (σ.1 a0 10)).toInt < (q_i (σ.1 a0 11)).toInt) (h2 : 0 ≤ (q_i (σ.1 a0 10)).toInt ∧ (q_i (σ.1 a0 10)).toInt < (σ.2.1 (q_r (σ.1 a0 8)) : Int)) (h3 : (q_i (σ.1 (q_r (σ.1 a0 8)) (q_i (σ.1 a0 10)).toNatClampNeg)).toInt ≥ a1.toInt) (h4 : 0 ≤ (q_i (σ.1 a0 10)).toInt ∧ (q_i (σ.1 a0 10)).toInt < (σ.2.1 (q_r (σ.1 a0 8)) : Int)) (h5 : (q_i (σ.1 (q_r (σ.1 a0 8)) (q_i (σ.1 a0 10)).toNatClampNeg)).toInt ≤ a2.toInt) :
    p_201 (a0) (a1) (a2) σ (Int32.ofInt (1)) σ := by
  refine ⟨rfl, fun P E S => ?_⟩
  obtain ⟨s1, s2, s3, s4, s5⟩ := S
  have hb : rb σ a0 P = (q_i (σ.1 (q_r (σ.1 a0 8)) P)).toInt := rfl
  simp only [s2, s3, q_ii, o32n (show P ≤ 1000 by omega), o32 (show P ≤ 1000 by omega), o32 (show E ≤ 1000 by omega)] at *
  first
    | rw [if_pos (by omega)]; rfl
    | rw [if_neg (by omega)]; rfl
noncomputable def qP_201 : zPp := fun as σ o σ' => match as with
  | [a0, a1, a2] => ∃ r, o = .inl (some (.int r)) ∧ p_201 (q_r a0) (q_i a1) (q_i a2) σ r σ'
  | _ => True
set_option maxRecDepth 100000 in
theorem sp_201 {sx : zX}  : zEe sx 201 3 qP_201 := by
  refine zfle zJ_201 (sps := []) (fun q hq => absurd hq List.not_mem_nil) (fun as σ hl => ?_)
  match as, hl with
  | [a0, a1, a2], _ =>
  refine ⟨[], 400, ?_, ?_⟩
  · exact fun q hq => absurd hq List.not_mem_nil
  · refine And.intro (fun h1 => ?_) (fun h1 => ?_)
    · exact ⟨_, rfl, sp_201_et (q_r a0) (q_i a1) (q_i a2) σ (cm3t h1)⟩
    · refine fun h2 => ?_
      refine And.intro (fun h3 => ?_) (fun h3 => ?_)
      · exact ⟨_, rfl, sp_201_eft (q_r a0) (q_i a1) (q_i a2) σ (cm3f h1) (q_inp h2) (cm2t h3)⟩
      · refine fun h4 => ?_
        refine And.intro (fun h5 => ?_) (fun h5 => ?_)
        · exact ⟨_, rfl, sp_201_efft (q_r a0) (q_i a1) (q_i a2) σ (cm3f h1) (q_inp h2) (cm2f h3) (q_inp h4) (cm4t h5)⟩
        · exact ⟨_, rfl, sp_201_efff (q_r a0) (q_i a1) (q_i a2) σ (cm3f h1) (q_inp h2) (cm2f h3) (q_inp h4) (cm4f h5)⟩
noncomputable def p_202 (a : Nat) (σ σ' : zSg) : Prop := ∀ P E, rS σ a P E → σ' = q_rs σ a (zBl (rb σ a) E P) (zBl (rb σ a) E P)
noncomputable def i_202 (a : Nat) (σ : zSg) (l : Nat) (τ : zSg) : Prop := l = a ∧ ∀ P E, rS σ a P E → ∃ K, K ≤ E ∧ zBl (rb σ a) E P = zBl (rb σ a) E K ∧ τ = q_w σ a 10 (.int (Int32.ofNat K))
theorem zBl_t {b : Nat → Int} {E P : Nat} (h : P < E ∧ 32 ≤ b P ∧ b P ≤ 32) : zBl b E P = zBl b E (P + 1) := zRn_t h
theorem zBl_f {b : Nat → Int} {E P : Nat} (h : ¬ (P < E ∧ 32 ≤ b P ∧ b P ≤ 32)) : zBl b E P = P := zRn_f h
theorem zBl_le {b : Nat → Int} {E P : Nat} (h : P ≤ E) : zBl b E P ≤ E := zRn_le h
theorem zBl_ge {b : Nat → Int} {E P : Nat} : P ≤ zBl b E P := zRn_ge
theorem zBl_bl {b : Nat → Int} {E P : Nat} : zBl b E (zBl b E P) = zBl b E P := zBl_f zRn_end
theorem sp_202_et (a0 : Nat) (σ : zSg) (τ1 : zSg) (r1 : Int32) (g1 : p_201 a0 (Int32.ofInt (32)) (Int32.ofInt (32)) σ r1 τ1) (h2 : r1.toInt = (0 : Int)) :
    p_202 (a0) σ (q_w τ1 a0 12 (.int (q_i (τ1.1 a0 10)))) := by
  intro P E S
  obtain rfl := g1.1.symm
  have hc := g1.f S h2
  rw [zBl_f hc]
  show q_w σ a0 12 (.int (q_i (σ.1 a0 10))) = _
  unfold q_rs
  rw [q_w_id S.2.1, S.2.1]
  rfl
theorem sp_202_ef (a0 : Nat) (σ : zSg) (τ1 : zSg) (r1 : Int32) (g1 : p_201 a0 (Int32.ofInt (32)) (Int32.ofInt (32)) σ r1 τ1) (h2 : r1.toInt ≠ (0 : Int)) :
    i_202 a0 σ a0 (q_w τ1 a0 10 (.int ((q_i (τ1.1 a0 10)) + (Int32.ofInt (1))))) := by
  refine ⟨rfl, fun P E S => ?_⟩
  obtain rfl := g1.1.symm
  have hc := g1.t S h2
  refine ⟨P + 1, by omega, zBl_t hc, ?_⟩
  have h9 : P ≤ 400 := by have := S.2.2.2; omega
  show q_w σ a0 10 (.int (q_i (σ.1 a0 10) + _)) = _
  rw [S.2.1, ← o32i (by omega)]
  rfl
theorem sp_202_c0_t (a0 : Nat) (σ : zSg) (l0 : Nat) (τ : zSg) (τ3 : zSg) (r3 : Int32) (hI : i_202 a0 σ l0 τ) (g3 : p_201 l0 (Int32.ofInt (32)) (Int32.ofInt (32)) τ r3 τ3) (h4 : r3.toInt = (0 : Int)) :
    p_202 (a0) σ (q_w τ3 l0 12 (.int (q_i (τ3.1 l0 10)))) := by
  obtain ⟨rfl, G⟩ := hI
  intro P E S
  obtain ⟨K, k1, k2, rfl⟩ := G P E S
  have S1 := S.pt k1
  have hb := rb_w (v := .int (Int32.ofNat K)) S.1 (show 10 ≠ 8 by omega)
  obtain rfl := g3.1.symm
  have hc := g3.f S1 h4
  rw [hb] at hc
  rw [k2, zBl_f hc]
  show q_w (q_w σ l0 10 (.int (Int32.ofNat K))) l0 12 (.int (q_i ((q_w σ l0 10 (.int (Int32.ofNat K))).1 l0 10))) = _
  rw [q_w_at]
  rfl
theorem sp_202_c0_f (a0 : Nat) (σ : zSg) (l0 : Nat) (τ : zSg) (τ3 : zSg) (r3 : Int32) (hI : i_202 a0 σ l0 τ) (g3 : p_201 l0 (Int32.ofInt (32)) (Int32.ofInt (32)) τ r3 τ3) (h4 : r3.toInt ≠ (0 : Int)) :
    i_202 a0 σ l0 (q_w τ3 l0 10 (.int ((q_i (τ3.1 l0 10)) + (Int32.ofInt (1))))) := by
  obtain ⟨rfl, G⟩ := hI
  refine ⟨rfl, fun P E S => ?_⟩
  obtain ⟨K, k1, k2, rfl⟩ := G P E S
  have S1 := S.pt k1
  have hb := rb_w (v := .int (Int32.ofNat K)) S.1 (show 10 ≠ 8 by omega)
  obtain rfl := g3.1.symm
  have hc := g3.t S1 h4
  rw [hb] at hc
  refine ⟨K + 1, by omega, k2.trans (zBl_t hc), ?_⟩
  have h9 : E ≤ 400 := by have := S.2.2.2; omega
  show q_w (q_w σ l0 10 (.int (Int32.ofNat K))) l0 10 (.int (q_i ((q_w σ l0 10 (.int (Int32.ofNat K))).1 l0 10) + _)) = _
  rw [q_w_at, q_w_w, ← o32i (by omega)]
  rfl
noncomputable def qP_202 : zPp := fun as σ o σ' => match as with
  | [a0] => o = .inl none ∧ p_202 (q_r a0) σ σ'
  | _ => True
set_option maxRecDepth 100000 in
theorem sp_202 {sx : zX} (S201 : zEe sx 201 3 qP_201) : zEe sx 202 1 qP_202 := by
  refine zfle zJ_202 (sps := [(201, 3, qP_201)]) (fun q hq => by
    simp only [List.mem_cons, List.not_mem_nil, or_false] at hq
    rcases hq with rfl
    · exact S201) (fun as σ hl => ?_)
  match as, hl with
  | [a0], _ =>
  refine ⟨[(0, fun lo st τ => st = [] ∧ i_202 (q_r a0) σ (q_r (lo 0)) τ)], 400, ?_, ?_⟩
  · intro q hq
    simp only [List.mem_cons, List.not_mem_nil, or_false] at hq
    rcases hq with rfl
    · rintro lo st τ ⟨rfl, hI⟩
      refine ⟨400, ?_⟩
      refine fun o3 τ3 g3 => ?_
      obtain ⟨r3, rfl, g3⟩ := g3
      refine And.intro (fun h4 => ?_) (fun h4 => ?_)
      · exact ⟨rfl, sp_202_c0_t (q_r a0) σ (q_r (lo 0)) τ τ3 r3 hI g3 (cm0t h4)⟩
      · exact ⟨rfl, sp_202_c0_f (q_r a0) σ (q_r (lo 0)) τ τ3 r3 hI g3 (cm0f h4)⟩
  · refine fun o1 τ1 g1 => ?_
    obtain ⟨r1, rfl, g1⟩ := g1
    refine And.intro (fun h2 => ?_) (fun h2 => ?_)
    · exact ⟨rfl, sp_202_et (q_r a0) σ τ1 r1 g1 (cm0t h2)⟩
    · exact ⟨rfl, sp_202_ef (q_r a0) σ τ1 r1 g1 (cm0f h2)⟩
noncomputable def p_203 (a : Nat) (σ σ' : zSg) : Prop := ∀ P E, rS σ a P E → σ' = q_rs σ a (zRn (rb σ a) E 97 122 (zBl (rb σ a) E P)) (zBl (rb σ a) E P)
noncomputable def i_203 (a : Nat) (σ : zSg) (l : Nat) (τ : zSg) : Prop := l = a ∧ ∀ P E, rS σ a P E → ∃ K, K ≤ E ∧ zRn (rb σ a) E 97 122 (zBl (rb σ a) E P) = zRn (rb σ a) E 97 122 K ∧ τ = q_rs σ a K (zBl (rb σ a) E P)
theorem sp_203_e (a0 : Nat) (σ : zSg) (τ1 : zSg) (g1 : p_202 a0 σ τ1) :
    i_203 a0 σ a0 τ1 := by
  refine ⟨rfl, fun P E S => ?_⟩
  exact ⟨zBl (rb σ a0) E P, zBl_le S.2.2.2.1, rfl, g1 P E S⟩
theorem sp_203_c2_t (a0 : Nat) (σ : zSg) (l0 : Nat) (τ : zSg) (τ2 : zSg) (r2 : Int32) (hI : i_203 a0 σ l0 τ) (g2 : p_201 l0 (Int32.ofInt (97)) (Int32.ofInt (122)) τ r2 τ2) (h3 : r2.toInt = (0 : Int)) :
    p_203 (a0) σ τ2 := by
  obtain ⟨rfl, G⟩ := hI
  intro P E S
  obtain ⟨K, k1, k2, rfl⟩ := G P E S
  have S1 := S.rs (Q := zBl (rb σ l0) E P) k1
  obtain rfl := g2.1.symm
  have hc := g2.f S1 h3
  rw [rb_rs S] at hc
  rw [k2, zRn_f (lo := 97) (hi := 122) hc]
theorem sp_203_c2_f (a0 : Nat) (σ : zSg) (l0 : Nat) (τ : zSg) (τ2 : zSg) (r2 : Int32) (hI : i_203 a0 σ l0 τ) (g2 : p_201 l0 (Int32.ofInt (97)) (Int32.ofInt (122)) τ r2 τ2) (h3 : r2.toInt ≠ (0 : Int)) :
    i_203 a0 σ l0 (q_w τ2 l0 10 (.int ((q_i (τ2.1 l0 10)) + (Int32.ofInt (1))))) := by
  obtain ⟨rfl, G⟩ := hI
  refine ⟨rfl, fun P E S => ?_⟩
  obtain ⟨K, k1, k2, rfl⟩ := G P E S
  have S1 := S.rs (Q := zBl (rb σ l0) E P) k1
  obtain rfl := g2.1.symm
  have hc := g2.t S1 h3
  rw [rb_rs S] at hc
  have h9 : E ≤ 400 := S.2.2.2.2
  refine ⟨K + 1, by omega, k2.trans (zRn_t (lo := 97) (hi := 122) hc), ?_⟩
  rw [q_rs_10]
  show q_w (q_rs σ l0 K _) l0 10 (.int (Int32.ofNat K + Int32.ofInt 1)) = _
  rw [o32i (by omega), q_rs_pt]
noncomputable def qP_203 : zPp := fun as σ o σ' => match as with
  | [a0] => o = .inl none ∧ p_203 (q_r a0) σ σ'
  | _ => True
set_option maxRecDepth 100000 in
theorem sp_203 {sx : zX} (S202 : zEe sx 202 1 qP_202) (S201 : zEe sx 201 3 qP_201) : zEe sx 203 1 qP_203 := by
  refine zfle zJ_203 (sps := [(202, 1, qP_202), (201, 3, qP_201)]) (fun q hq => by
    simp only [List.mem_cons, List.not_mem_nil, or_false] at hq
    rcases hq with rfl | rfl
    · exact S202
    · exact S201) (fun as σ hl => ?_)
  match as, hl with
  | [a0], _ =>
  refine ⟨[(2, fun lo st τ => st = [] ∧ i_203 (q_r a0) σ (q_r (lo 0)) τ)], 400, ?_, ?_⟩
  · intro q hq
    simp only [List.mem_cons, List.not_mem_nil, or_false] at hq
    rcases hq with rfl
    · rintro lo st τ ⟨rfl, hI⟩
      refine ⟨400, ?_⟩
      refine fun o2 τ2 g2 => ?_
      obtain ⟨r2, rfl, g2⟩ := g2
      refine And.intro (fun h3 => ?_) (fun h3 => ?_)
      · exact ⟨rfl, sp_203_c2_t (q_r a0) σ (q_r (lo 0)) τ τ2 r2 hI g2 (cm0t h3)⟩
      · exact ⟨rfl, sp_203_c2_f (q_r a0) σ (q_r (lo 0)) τ τ2 r2 hI g2 (cm0f h3)⟩
  · refine fun o1 τ1 g1 => ?_
    obtain ⟨rfl, g1⟩ := g1
    exact ⟨rfl, sp_203_e (q_r a0) σ τ1 g1⟩
/-- the word stands between begin and point -/
noncomputable def zWd (b : Nat → Int) (s : List Int) (P Q : Nat) : Prop := P = Q + s.length ∧ ∀ k, k < s.length → b (Q + k) = s.getD k 0
noncomputable def q_si (i : Nat) : List Int := (q_s i).map (fun c => (c &&& 255).toInt)
theorem q_si_len (i : Nat) : (q_si i).length = (q_s i).length := List.length_map ..
theorem map_getD (f : Int32 → Int) : ∀ (l : List Int32) (k : Nat), k < l.length → (l.map f).getD k 0 = f (l.getD k 0)
  | [], k, h => absurd h (Nat.not_lt_zero k)
  | x :: l, 0, h => rfl
  | x :: l, k + 1, h => map_getD f l k (Nat.lt_of_succ_lt_succ h)
theorem q_si_at {i k : Nat} (h : k < (q_s i).length) : (q_si i).getD k 0 = ((q_s i).getD k 0 &&& 255).toInt := map_getD (fun c => (c &&& 255).toInt) (q_s i) k h
noncomputable def p_204 (a w : Nat) (σ : zSg) (r : Int32) (σ' : zSg) : Prop := σ' = σ ∧ ∀ P Q E, rS σ a P E → σ.1 a 12 = .int (Int32.ofNat Q) → Q ≤ P → (q_s w).length ≤ 100 → (r.toInt ≠ 0 ↔ zWd (rb σ a) (q_si w) P Q)
noncomputable def i_204 (a w : Nat) (σ : zSg) (l0 l1 : Nat) (is k : Int32) (τ : zSg) : Prop := τ = σ ∧ l0 = a ∧ l1 = w ∧ ∀ P Q E, rS σ a P E → σ.1 a 12 = .int (Int32.ofNat Q) → Q ≤ P → (q_s w).length ≤ 100 → ∃ K : Nat, k = Int32.ofNat K ∧ K ≤ (q_s w).length ∧ (is.toInt = 0 → ¬ zWd (rb σ a) (q_si w) P Q) ∧ (is.toInt ≠ 0 → P = Q + (q_s w).length ∧ ∀ j, j < K → rb σ a (Q + j) = (q_si w).getD j 0)
theorem zWd.len {b : Nat → Int} {w P Q : Nat} (h : P ≠ Q + (q_s w).length) : ¬ zWd b (q_si w) P Q := fun q => h (by rw [← q_si_len]; exact q.1)
theorem sp_204_et (a0 : Nat) (a1 : Nat) (σ : zSg) (h1 : ((q_i (σ.1 a0 10)) - (q_i (σ.1 a0 12))).toInt ≠ (Int32.ofNat (q_s a1).length).toInt) :
    i_204 a0 a1 σ a0 a1 (Int32.ofInt (0)) (Int32.ofInt (0)) σ := by
  refine ⟨rfl, rfl, rfl, fun P Q E S hQ hq hw => ⟨0, rfl, Nat.zero_le _, fun h9 => ?_, fun h9 => ?_⟩⟩
  · have hP : P ≤ 400 := Nat.le_trans S.2.2.2.1 S.2.2.2.2
    rw [S.2.1, hQ] at h1
    have e1 : (Int32.ofNat P - Int32.ofNat Q).toInt = (P : Int) - Q := zI_sub (o32 (by omega)) (o32 (by omega)) (by omega) (by omega)
    have HH1 : (Int32.ofNat P - Int32.ofNat Q).toInt ≠ (Int32.ofNat (q_s a1).length).toInt := h1
    rw [e1, o32 (by omega)] at HH1
    exact zWd.len (by omega)
  · exact absurd rfl h9
theorem sp_204_ef (a0 : Nat) (a1 : Nat) (σ : zSg) (h1 : ((q_i (σ.1 a0 10)) - (q_i (σ.1 a0 12))).toInt = (Int32.ofNat (q_s a1).length).toInt) :
    i_204 a0 a1 σ a0 a1 (Int32.ofInt (1)) (Int32.ofInt (0)) σ := by
  refine ⟨rfl, rfl, rfl, fun P Q E S hQ hq hw => ⟨0, rfl, Nat.zero_le _, fun h9 => absurd h9 (by decide), fun _ => ?_⟩⟩
  have hP : P ≤ 400 := Nat.le_trans S.2.2.2.1 S.2.2.2.2
  rw [S.2.1, hQ] at h1
  have e1 : (Int32.ofNat P - Int32.ofNat Q).toInt = (P : Int) - Q := zI_sub (o32 (by omega)) (o32 (by omega)) (by omega) (by omega)
  have HH1 : (Int32.ofNat P - Int32.ofNat Q).toInt = (Int32.ofNat (q_s a1).length).toInt := h1
  rw [e1, o32 (by omega)] at HH1
  exact ⟨by omega, fun j hj => absurd hj (by omega)⟩
theorem sp_204_c14_t (a0 : Nat) (a1 : Nat) (σ : zSg) (l0 : Nat) (l1 : Nat) (l2 : Int32) (l3 : Int32) (τ : zSg) (hI : i_204 a0 a1 σ l0 l1 l2 l3 τ) (h2 : l2.toInt = (0 : Int)) :
    p_204 (a0) (a1) σ l2 τ := by
  obtain ⟨rfl, rfl, rfl, G⟩ := hI
  refine ⟨rfl, fun P Q E S hQ hq hw => ?_⟩
  obtain ⟨K, rfl, k1, k2, k3⟩ := G P Q E S hQ hq hw
  exact ⟨fun h => absurd h2 h, fun h => absurd h (k2 h2)⟩
theorem sp_204_c14_ft (a0 : Nat) (a1 : Nat) (σ : zSg) (l0 : Nat) (l1 : Nat) (l2 : Int32) (l3 : Int32) (τ : zSg) (hI : i_204 a0 a1 σ l0 l1 l2 l3 τ) (h2 : l2.toInt ≠ (0 : Int)) (h3 : l3.toInt ≥ (Int32.ofNat (q_s l1).length).toInt) :
    p_204 (a0) (a1) σ l2 τ := by
  obtain ⟨rfl, rfl, rfl, G⟩ := hI
  refine ⟨rfl, fun P Q E S hQ hq hw => ?_⟩
  obtain ⟨K, rfl, k1, k2, k3⟩ := G P Q E S hQ hq hw
  obtain ⟨e1, e2⟩ := k3 h2
  rw [o32 (by omega), o32 (by omega)] at h3
  exact ⟨fun _ => ⟨by rw [q_si_len]; exact e1, fun j hj => e2 j (by rw [q_si_len] at hj; omega)⟩, fun _ => h2⟩
theorem sp_204_c14_fft (a0 : Nat) (a1 : Nat) (σ : zSg) (l0 : Nat) (l1 : Nat) (l2 : Int32) (l3 : Int32) (τ : zSg) (hI : i_204 a0 a1 σ l0 l1 l2 l3 τ) (h2 : l2.toInt ≠ (0 : Int)) (h3 : l3.toInt < (Int32.ofNat (q_s l1).length).toInt) (h4 : 0 ≤ ((q_i (τ.1 l0 12)) + l3).toInt ∧ ((q_i (τ.1 l0 12)) + l3).toInt < (τ.2.1 (q_r (τ.1 l0 8)) : Int)) (h5 : 0 ≤ l3.toInt ∧ l3.toInt < ((q_s l1).length : Int)) (h6 : (q_i (τ.1 (q_r (τ.1 l0 8)) ((q_i (τ.1 l0 12)) + l3).toNatClampNeg)).toInt ≠ (((q_s l1).getD l3.toNatClampNeg 0) &&& 255).toInt) :
    i_204 a0 a1 σ l0 l1 (Int32.ofInt (0)) (l3 + Int32.ofInt (1)) τ := by
  obtain ⟨rfl, rfl, rfl, G⟩ := hI
  refine ⟨rfl, rfl, rfl, fun P Q E S hQ hq hw => ?_⟩
  obtain ⟨K, rfl, k1, k2, k3⟩ := G P Q E S hQ hq hw
  have hP : P ≤ 400 := Nat.le_trans S.2.2.2.1 S.2.2.2.2
  obtain ⟨e1, e2⟩ := k3 h2
  rw [o32 (by omega), o32 (by omega)] at h3
  have eb : (q_i (τ.1 (q_r (τ.1 l0 8)) ((Int32.ofNat Q + Int32.ofNat K).toNatClampNeg))).toInt ≠ ((q_s l1).getD (Int32.ofNat K).toNatClampNeg 0 &&& 255).toInt := by
    rw [hQ] at h6
    exact h6
  have ek : (Int32.ofNat Q + Int32.ofNat K).toNatClampNeg = Q + K := znat (by rw [zI_add (o32 (by omega)) (o32 (by omega)) (by omega) (by omega)]; omega)
  rw [ek, o32n (by omega), ← q_si_at (by omega)] at eb
  exact ⟨K + 1, by rw [← o32i (by omega)], by omega, fun _ q => eb (q.2 K (by rw [q_si_len]; omega)), fun h => absurd rfl h⟩
theorem sp_204_c14_fff (a0 : Nat) (a1 : Nat) (σ : zSg) (l0 : Nat) (l1 : Nat) (l2 : Int32) (l3 : Int32) (τ : zSg) (hI : i_204 a0 a1 σ l0 l1 l2 l3 τ) (h2 : l2.toInt ≠ (0 : Int)) (h3 : l3.toInt < (Int32.ofNat (q_s l1).length).toInt) (h4 : 0 ≤ ((q_i (τ.1 l0 12)) + l3).toInt ∧ ((q_i (τ.1 l0 12)) + l3).toInt < (τ.2.1 (q_r (τ.1 l0 8)) : Int)) (h5 : 0 ≤ l3.toInt ∧ l3.toInt < ((q_s l1).length : Int)) (h6 : (q_i (τ.1 (q_r (τ.1 l0 8)) ((q_i (τ.1 l0 12)) + l3).toNatClampNeg)).toInt = (((q_s l1).getD l3.toNatClampNeg 0) &&& 255).toInt) :
    i_204 a0 a1 σ l0 l1 (Int32.ofInt (1)) (l3 + Int32.ofInt (1)) τ := by
  obtain ⟨rfl, rfl, rfl, G⟩ := hI
  refine ⟨rfl, rfl, rfl, fun P Q E S hQ hq hw => ?_⟩
  obtain ⟨K, rfl, k1, k2, k3⟩ := G P Q E S hQ hq hw
  have hP : P ≤ 400 := Nat.le_trans S.2.2.2.1 S.2.2.2.2
  obtain ⟨e1, e2⟩ := k3 h2
  rw [o32 (by omega), o32 (by omega)] at h3
  have eb : (q_i (τ.1 (q_r (τ.1 l0 8)) ((Int32.ofNat Q + Int32.ofNat K).toNatClampNeg))).toInt = ((q_s l1).getD (Int32.ofNat K).toNatClampNeg 0 &&& 255).toInt := by
    rw [hQ] at h6
    exact h6
  have ek : (Int32.ofNat Q + Int32.ofNat K).toNatClampNeg = Q + K := znat (by rw [zI_add (o32 (by omega)) (o32 (by omega)) (by omega) (by omega)]; omega)
  rw [ek, o32n (by omega), ← q_si_at (by omega)] at eb
  refine ⟨K + 1, by rw [← o32i (by omega)], by omega, fun h => absurd h (by decide), fun _ => ⟨e1, fun j hj => ?_⟩⟩
  by_cases hj2 : j = K
  · rw [hj2]; exact eb
  · exact e2 j (by omega)
noncomputable def qP_204 : zPp := fun as σ o σ' => match as with
  | [a0, a1] => ∃ r, o = .inl (some (.int r)) ∧ p_204 (q_r a0) (q_r a1) σ r σ'
  | _ => True
set_option maxRecDepth 100000 in
theorem sp_204 {sx : zX}  : zEe sx 204 2 qP_204 := by
  refine zfle zJ_204 (sps := []) (fun q hq => absurd hq List.not_mem_nil) (fun as σ hl => ?_)
  match as, hl with
  | [a0, a1], _ =>
  refine ⟨[(14, fun lo st τ => st = [] ∧ i_204 (q_r a0) (q_r a1) σ (q_r (lo 0)) (q_r (lo 1)) (q_i (lo 2)) (q_i (lo 3)) τ)], 400, ?_, ?_⟩
  · intro q hq
    simp only [List.mem_cons, List.not_mem_nil, or_false] at hq
    rcases hq with rfl
    · rintro lo st τ ⟨rfl, hI⟩
      refine ⟨400, ?_⟩
      refine And.intro (fun h2 => ?_) (fun h2 => ?_)
      · exact ⟨_, rfl, sp_204_c14_t (q_r a0) (q_r a1) σ (q_r (lo 0)) (q_r (lo 1)) (q_i (lo 2)) (q_i (lo 3)) τ hI (cm0t h2)⟩
      · refine And.intro (fun h3 => ?_) (fun h3 => ?_)
        · exact ⟨_, rfl, sp_204_c14_ft (q_r a0) (q_r a1) σ (q_r (lo 0)) (q_r (lo 1)) (q_i (lo 2)) (q_i (lo 3)) τ hI (cm0f h2) (cm3t h3)⟩
        · refine fun h4 => ?_
          refine fun h5 => ?_
          refine And.intro (fun h6 => ?_) (fun h6 => ?_)
          · exact ⟨rfl, sp_204_c14_fft (q_r a0) (q_r a1) σ (q_r (lo 0)) (q_r (lo 1)) (q_i (lo 2)) (q_i (lo 3)) τ hI (cm0f h2) (cm3f h3) (q_inp h4) (q_inp h5) (cm1t h6)⟩
          · exact ⟨rfl, sp_204_c14_fff (q_r a0) (q_r a1) σ (q_r (lo 0)) (q_r (lo 1)) (q_i (lo 2)) (q_i (lo 3)) τ hI (cm0f h2) (cm3f h3) (q_inp h4) (q_inp h5) (cm1f h6)⟩
  · refine And.intro (fun h1 => ?_) (fun h1 => ?_)
    · exact ⟨rfl, sp_204_et (q_r a0) (q_r a1) σ (cm1t h1)⟩
    · exact ⟨rfl, sp_204_ef (q_r a0) (q_r a1) σ (cm1f h1)⟩
noncomputable def zLt (b : Nat → Int) (E P : Nat) : Nat := zRn b E 97 122 P
/-- the word stands at A -/
noncomputable def zWa (b : Nat → Int) (E : Nat) (s : List Int) (A : Nat) : Prop := zWd b s (zLt b E A) A
noncomputable def p_205 (a w : Nat) (σ : zSg) (r : Int32) (σ' : zSg) : Prop := ∀ P E, rS σ a P E → (q_s w).length ≤ 100 → (r.toInt ≠ 0 ∧ zWa (rb σ a) E (q_si w) (zBl (rb σ a) E P) ∧ σ' = q_rs σ a (zBl (rb σ a) E P + (q_s w).length) (zBl (rb σ a) E P)) ∨ (r.toInt = 0 ∧ ¬ zWa (rb σ a) E (q_si w) (zBl (rb σ a) E P) ∧ σ' = q_rs σ a (zBl (rb σ a) E P) (zBl (rb σ a) E P))
theorem p_204.u {a w P E : Nat} {r : Int32} {σ τ τ' : zSg} (S : rS σ a P E) (G1 : p_203 a σ τ) (G2 : p_204 a w τ r τ') (hw : (q_s w).length ≤ 100) : τ' = τ ∧ τ = q_rs σ a (zLt (rb σ a) E (zBl (rb σ a) E P)) (zBl (rb σ a) E P) ∧ (r.toInt ≠ 0 ↔ zWa (rb σ a) E (q_si w) (zBl (rb σ a) E P)) := by
  have e := G1 P E S
  have hB := zBl_le (b := rb σ a) S.2.2.2.1
  have S1 := S.rs (Q := zBl (rb σ a) E P) (zRn_le (b := rb σ a) (lo := 97) (hi := 122) hB)
  rw [← e] at S1
  have h9 := G2.2 _ (zBl (rb σ a) E P) E S1 (by rw [e]; exact q_rs_12) zRn_ge hw
  rw [show rb τ a = rb σ a by rw [e]; exact rb_rs S] at h9
  exact ⟨G2.1, e, h9⟩
theorem sp_205_et (a0 : Nat) (a1 : Nat) (σ : zSg) (τ1 : zSg) (τ2 : zSg) (r2 : Int32) (g1 : p_203 a0 σ τ1) (g2 : p_204 a0 a1 τ1 r2 τ2) (h3 : r2.toInt = (0 : Int)) :
    p_205 (a0) (a1) σ (Int32.ofInt (0)) (q_w τ2 a0 10 (.int (q_i (τ2.1 a0 12)))) := by
  intro P E S hw
  obtain ⟨rfl, e, h9⟩ := p_204.u S g1 g2 hw
  refine Or.inr ⟨rfl, fun q => (h9.mpr q) h3, ?_⟩
  rw [e, q_rs_12]
  exact q_rs_pt
theorem sp_205_ef (a0 : Nat) (a1 : Nat) (σ : zSg) (τ1 : zSg) (τ2 : zSg) (r2 : Int32) (g1 : p_203 a0 σ τ1) (g2 : p_204 a0 a1 τ1 r2 τ2) (h3 : r2.toInt ≠ (0 : Int)) :
    p_205 (a0) (a1) σ (Int32.ofInt (1)) τ2 := by
  intro P E S hw
  obtain ⟨rfl, e, h9⟩ := p_204.u S g1 g2 hw
  have hz := h9.mp h3
  refine Or.inl ⟨by decide, hz, ?_⟩
  rw [e, show zLt (rb σ a0) E (zBl (rb σ a0) E P) = zBl (rb σ a0) E P + (q_s a1).length by rw [← q_si_len]; exact hz.1]
noncomputable def qP_205 : zPp := fun as σ o σ' => match as with
  | [a0, a1] => ∃ r, o = .inl (some (.int r)) ∧ p_205 (q_r a0) (q_r a1) σ r σ'
  | _ => True
set_option maxRecDepth 100000 in
theorem sp_205 {sx : zX} (S203 : zEe sx 203 1 qP_203) (S204 : zEe sx 204 2 qP_204) : zEe sx 205 2 qP_205 := by
  refine zfle zJ_205 (sps := [(203, 1, qP_203), (204, 2, qP_204)]) (fun q hq => by
    simp only [List.mem_cons, List.not_mem_nil, or_false] at hq
    rcases hq with rfl | rfl
    · exact S203
    · exact S204) (fun as σ hl => ?_)
  match as, hl with
  | [a0, a1], _ =>
  refine ⟨[], 400, ?_, ?_⟩
  · exact fun q hq => absurd hq List.not_mem_nil
  · refine fun o1 τ1 g1 => ?_
    obtain ⟨rfl, g1⟩ := g1
    refine fun o2 τ2 g2 => ?_
    obtain ⟨r2, rfl, g2⟩ := g2
    refine And.intro (fun h3 => ?_) (fun h3 => ?_)
    · exact ⟨_, rfl, sp_205_et (q_r a0) (q_r a1) σ τ1 τ2 r2 g1 g2 (cm0t h3)⟩
    · exact ⟨_, rfl, sp_205_ef (q_r a0) (q_r a1) σ τ1 τ2 r2 g1 g2 (cm0f h3)⟩
noncomputable def p_206 (a : Nat) (c : Int32) (σ : zSg) (r : Int32) (σ' : zSg) : Prop := ∀ P E, rS σ a P E → (r.toInt ≠ 0 ∧ (zBl (rb σ a) E P < E ∧ rb σ a (zBl (rb σ a) E P) = c.toInt) ∧ σ' = q_rs σ a (zBl (rb σ a) E P + 1) (zBl (rb σ a) E P)) ∨ (r.toInt = 0 ∧ ¬ (zBl (rb σ a) E P < E ∧ rb σ a (zBl (rb σ a) E P) = c.toInt) ∧ σ' = q_rs σ a (zBl (rb σ a) E P) (zBl (rb σ a) E P))
theorem sp_206_et (a0 : Nat) (a1 : Int32) (σ : zSg) (τ1 : zSg) (τ2 : zSg) (r2 : Int32) (g1 : p_202 a0 σ τ1) (g2 : p_201 a0 a1 a1 τ1 r2 τ2) (h3 : r2.toInt ≠ (0 : Int)) :
    p_206 (a0) (a1) σ (Int32.ofInt (1)) (q_w τ2 a0 10 (.int ((q_i (τ2.1 a0 10)) + (Int32.ofInt (1))))) := by
  intro P E S
  have e := g1 P E S
  have hB := zBl_le (b := rb σ a0) S.2.2.2.1
  have S1 := S.rs (Q := zBl (rb σ a0) E P) hB
  rw [← e] at S1
  have hc := g2.t S1 h3
  rw [show rb τ1 a0 = rb σ a0 by rw [e]; exact rb_rs S] at hc
  have h9 : E ≤ 400 := S.2.2.2.2
  refine Or.inl ⟨by decide, ⟨hc.1, by omega⟩, ?_⟩
  rw [g2.1, e, q_rs_10]
  show q_w (q_rs σ a0 _ _) a0 10 (.int (Int32.ofNat _ + Int32.ofInt 1)) = _
  rw [o32i (by omega), q_rs_pt]
theorem sp_206_ef (a0 : Nat) (a1 : Int32) (σ : zSg) (τ1 : zSg) (τ2 : zSg) (r2 : Int32) (g1 : p_202 a0 σ τ1) (g2 : p_201 a0 a1 a1 τ1 r2 τ2) (h3 : r2.toInt = (0 : Int)) :
    p_206 (a0) (a1) σ (Int32.ofInt (0)) τ2 := by
  intro P E S
  have e := g1 P E S
  have hB := zBl_le (b := rb σ a0) S.2.2.2.1
  have S1 := S.rs (Q := zBl (rb σ a0) E P) hB
  rw [← e] at S1
  have hc := g2.f S1 h3
  rw [show rb τ1 a0 = rb σ a0 by rw [e]; exact rb_rs S] at hc
  exact Or.inr ⟨rfl, fun q => hc ⟨q.1, by omega, by omega⟩, by rw [g2.1, e]⟩
noncomputable def qP_206 : zPp := fun as σ o σ' => match as with
  | [a0, a1] => ∃ r, o = .inl (some (.int r)) ∧ p_206 (q_r a0) (q_i a1) σ r σ'
  | _ => True
set_option maxRecDepth 100000 in
theorem sp_206 {sx : zX} (S202 : zEe sx 202 1 qP_202) (S201 : zEe sx 201 3 qP_201) : zEe sx 206 2 qP_206 := by
  refine zfle zJ_206 (sps := [(202, 1, qP_202), (201, 3, qP_201)]) (fun q hq => by
    simp only [List.mem_cons, List.not_mem_nil, or_false] at hq
    rcases hq with rfl | rfl
    · exact S202
    · exact S201) (fun as σ hl => ?_)
  match as, hl with
  | [a0, a1], _ =>
  refine ⟨[], 400, ?_, ?_⟩
  · exact fun q hq => absurd hq List.not_mem_nil
  · refine fun o1 τ1 g1 => ?_
    obtain ⟨rfl, g1⟩ := g1
    refine fun o2 τ2 g2 => ?_
    obtain ⟨r2, rfl, g2⟩ := g2
    refine And.intro (fun h3 => ?_) (fun h3 => ?_)
    · exact ⟨_, rfl, sp_206_et (q_r a0) (q_i a1) σ τ1 τ2 r2 g1 g2 (cm1t h3)⟩
    · exact ⟨_, rfl, sp_206_ef (q_r a0) (q_i a1) σ τ1 τ2 r2 g1 g2 (cm1f h3)⟩
noncomputable def zDe (b : Nat → Int) (E P : Nat) : Nat := zRn b E 48 57 P
theorem zDv_in {b : Nat → Int} {E A : Nat} : ∀ n, A + n ≤ zDe b E A → 0 ≤ zDv b A n ∧ zDv b A n ≤ 1110
  | 0, _ => by unfold zDv; omega
  | 1, h => by
    have h1 := zRn_in (b := b) (E := E) (lo := 48) (hi := 57) (P := A) (k := A) (by omega) (by show A < zDe b E A; omega)
    simp only [zDv, Nat.add_zero]
    split <;> omega
  | 2, h => by
    have h1 := zRn_in (b := b) (E := E) (lo := 48) (hi := 57) (P := A) (k := A) (by omega) (by show A < zDe b E A; omega)
    have h2 := zRn_in (b := b) (E := E) (lo := 48) (hi := 57) (P := A) (k := A + 1) (by omega) (by show A + 1 < zDe b E A; omega)
    simp only [zDv, Nat.add_zero]
    split <;> split <;> omega
  | 3, h => by
    have h1 := zRn_in (b := b) (E := E) (lo := 48) (hi := 57) (P := A) (k := A) (by omega) (by show A < zDe b E A; omega)
    have h2 := zRn_in (b := b) (E := E) (lo := 48) (hi := 57) (P := A) (k := A + 1) (by omega) (by show A + 1 < zDe b E A; omega)
    have h3 := zRn_in (b := b) (E := E) (lo := 48) (hi := 57) (P := A) (k := A + 2) (by omega) (by show A + 2 < zDe b E A; omega)
    simp only [zDv, Nat.add_zero]
    split <;> split <;> split <;> omega
  | n + 4, h => by
    have := zDv_in (n + 3) (show A + (n + 3) ≤ zDe b E A by omega)
    unfold zDv
    rw [if_neg (by omega)]
    exact this
/-- the number at A: what number answers -/
noncomputable def zNm (b : Nat → Int) (E : Nat) (lo hi : Int) (A : Nat) : Int := if 1 ≤ zDe b E A - A ∧ zDe b E A - A ≤ 3 ∧ lo ≤ zDv b A (zDe b E A - A) ∧ zDv b A (zDe b E A - A) ≤ hi then zDv b A (zDe b E A - A) else -1
noncomputable def p_207 (a : Nat) (lo hi : Int32) (σ : zSg) (r : Int32) (σ' : zSg) : Prop := ∀ P E, rS σ a P E → r.toInt = zNm (rb σ a) E lo.toInt hi.toInt (zBl (rb σ a) E P) ∧ σ' = q_rs σ a (zDe (rb σ a) E (zBl (rb σ a) E P)) (zBl (rb σ a) E P)
noncomputable def i_207 (a : Nat) (lo hi : Int32) (σ : zSg) (l0 : Nat) (l1 l2 v : Int32) (τ : zSg) : Prop := l0 = a ∧ l1 = lo ∧ l2 = hi ∧ ∀ P E, rS σ a P E → ∃ K, zBl (rb σ a) E P ≤ K ∧ K ≤ E ∧ zDe (rb σ a) E (zBl (rb σ a) E P) = zDe (rb σ a) E K ∧ K ≤ zDe (rb σ a) E (zBl (rb σ a) E P) ∧ v.toInt = zDv (rb σ a) (zBl (rb σ a) E P) (K - zBl (rb σ a) E P) ∧ τ = q_rs σ a K (zBl (rb σ a) E P)
theorem sp_207_e (a0 : Nat) (a1 : Int32) (a2 : Int32) (σ : zSg) (τ1 : zSg) (g1 : p_202 a0 σ τ1) :
    i_207 a0 a1 a2 σ a0 a1 a2 (Int32.ofInt (0)) τ1 := by
  refine ⟨rfl, rfl, rfl, fun P E S => ?_⟩
  have hB := zBl_le (b := rb σ a0) S.2.2.2.1
  refine ⟨zBl (rb σ a0) E P, Nat.le_refl _, hB, rfl, zRn_ge, ?_, g1 P E S⟩
  rw [Nat.sub_self]
  rfl
theorem sp_207_c4_tt (a0 : Nat) (a1 : Int32) (a2 : Int32) (σ : zSg) (l0 : Nat) (l1 : Int32) (l2 : Int32) (l3 : Int32) (τ : zSg) (τ2 : zSg) (r2 : Int32) (hI : i_207 a0 a1 a2 σ l0 l1 l2 l3 τ) (g2 : p_201 l0 (Int32.ofInt (48)) (Int32.ofInt (57)) τ r2 τ2) (h3 : r2.toInt = (0 : Int)) (h4 : (q_i (τ2.1 l0 10)).toInt = (q_i (τ2.1 l0 12)).toInt) :
    p_207 (a0) (a1) (a2) σ (Int32.ofInt (-1)) τ2 := by
  obtain ⟨rfl, rfl, rfl, G⟩ := hI
  intro P E S
  obtain ⟨K, k0, k1, k2, k3, k4, rfl⟩ := G P E S
  have hE : E ≤ 400 := S.2.2.2.2
  have S1 := S.rs (Q := zBl (rb σ l0) E P) k1
  obtain rfl := g2.1.symm
  have hc := g2.f S1 h3
  rw [rb_rs S] at hc
  have hD : zDe (rb σ l0) E K = K := zRn_f (lo := 48) (hi := 57) hc
  rw [hD] at k2
  have hv := zDv_in (b := rb σ l0) (E := E) (A := zBl (rb σ l0) E P) (K - zBl (rb σ l0) E P) (by omega)
  refine ⟨?_, by rw [k2]⟩
  unfold zNm
  rw [k2, ← k4]
  have e1 : (Int32.ofNat K - Int32.ofNat (zBl (rb σ l0) E P)).toInt = (K : Int) - zBl (rb σ l0) E P := zI_sub (o32 (by omega)) (o32 (by omega)) (by omega) (by omega)
  have e2 : (Int32.ofNat K).toInt = (K : Int) := o32 (by omega)
  have e3 : (Int32.ofNat (zBl (rb σ l0) E P)).toInt = ((zBl (rb σ l0) E P : Nat) : Int) := o32 (by omega)
  have E4 : (Int32.ofNat K).toInt = (Int32.ofNat (zBl (rb σ l0) E P)).toInt := by
    have h9 := h4
    rw [q_rs_10, q_rs_12] at h9
    exact h9
  rw [e2, e3] at E4
  rw [if_neg (by omega)]
  rfl
theorem sp_207_c4_tft (a0 : Nat) (a1 : Int32) (a2 : Int32) (σ : zSg) (l0 : Nat) (l1 : Int32) (l2 : Int32) (l3 : Int32) (τ : zSg) (τ2 : zSg) (r2 : Int32) (hI : i_207 a0 a1 a2 σ l0 l1 l2 l3 τ) (g2 : p_201 l0 (Int32.ofInt (48)) (Int32.ofInt (57)) τ r2 τ2) (h3 : r2.toInt = (0 : Int)) (h4 : (q_i (τ2.1 l0 10)).toInt ≠ (q_i (τ2.1 l0 12)).toInt) (h5 : ((q_i (τ2.1 l0 10)) - (q_i (τ2.1 l0 12))).toInt > (3 : Int)) :
    p_207 (a0) (a1) (a2) σ (Int32.ofInt (-1)) τ2 := by
  obtain ⟨rfl, rfl, rfl, G⟩ := hI
  intro P E S
  obtain ⟨K, k0, k1, k2, k3, k4, rfl⟩ := G P E S
  have hE : E ≤ 400 := S.2.2.2.2
  have S1 := S.rs (Q := zBl (rb σ l0) E P) k1
  obtain rfl := g2.1.symm
  have hc := g2.f S1 h3
  rw [rb_rs S] at hc
  have hD : zDe (rb σ l0) E K = K := zRn_f (lo := 48) (hi := 57) hc
  rw [hD] at k2
  have hv := zDv_in (b := rb σ l0) (E := E) (A := zBl (rb σ l0) E P) (K - zBl (rb σ l0) E P) (by omega)
  refine ⟨?_, by rw [k2]⟩
  unfold zNm
  rw [k2, ← k4]
  have e1 : (Int32.ofNat K - Int32.ofNat (zBl (rb σ l0) E P)).toInt = (K : Int) - zBl (rb σ l0) E P := zI_sub (o32 (by omega)) (o32 (by omega)) (by omega) (by omega)
  have e2 : (Int32.ofNat K).toInt = (K : Int) := o32 (by omega)
  have e3 : (Int32.ofNat (zBl (rb σ l0) E P)).toInt = ((zBl (rb σ l0) E P : Nat) : Int) := o32 (by omega)
  have E4 : (Int32.ofNat K).toInt ≠ (Int32.ofNat (zBl (rb σ l0) E P)).toInt := by
    have h9 := h4
    rw [q_rs_10, q_rs_12] at h9
    exact h9
  rw [e2, e3] at E4
  have E5 : (Int32.ofNat K - Int32.ofNat (zBl (rb σ l0) E P)).toInt > 3 := by
    have h9 := h5
    rw [q_rs_10, q_rs_12] at h9
    exact h9
  rw [e1] at E5
  rw [if_neg (by omega)]
  rfl
theorem sp_207_c4_tfft (a0 : Nat) (a1 : Int32) (a2 : Int32) (σ : zSg) (l0 : Nat) (l1 : Int32) (l2 : Int32) (l3 : Int32) (τ : zSg) (τ2 : zSg) (r2 : Int32) (hI : i_207 a0 a1 a2 σ l0 l1 l2 l3 τ) (g2 : p_201 l0 (Int32.ofInt (48)) (Int32.ofInt (57)) τ r2 τ2) (h3 : r2.toInt = (0 : Int)) (h4 : (q_i (τ2.1 l0 10)).toInt ≠ (q_i (τ2.1 l0 12)).toInt) (h5 : ((q_i (τ2.1 l0 10)) - (q_i (τ2.1 l0 12))).toInt ≤ (3 : Int)) (h6 : l3.toInt < l1.toInt) :
    p_207 (a0) (a1) (a2) σ (Int32.ofInt (-1)) τ2 := by
  obtain ⟨rfl, rfl, rfl, G⟩ := hI
  intro P E S
  obtain ⟨K, k0, k1, k2, k3, k4, rfl⟩ := G P E S
  have hE : E ≤ 400 := S.2.2.2.2
  have S1 := S.rs (Q := zBl (rb σ l0) E P) k1
  obtain rfl := g2.1.symm
  have hc := g2.f S1 h3
  rw [rb_rs S] at hc
  have hD : zDe (rb σ l0) E K = K := zRn_f (lo := 48) (hi := 57) hc
  rw [hD] at k2
  have hv := zDv_in (b := rb σ l0) (E := E) (A := zBl (rb σ l0) E P) (K - zBl (rb σ l0) E P) (by omega)
  refine ⟨?_, by rw [k2]⟩
  unfold zNm
  rw [k2, ← k4]
  have e1 : (Int32.ofNat K - Int32.ofNat (zBl (rb σ l0) E P)).toInt = (K : Int) - zBl (rb σ l0) E P := zI_sub (o32 (by omega)) (o32 (by omega)) (by omega) (by omega)
  have e2 : (Int32.ofNat K).toInt = (K : Int) := o32 (by omega)
  have e3 : (Int32.ofNat (zBl (rb σ l0) E P)).toInt = ((zBl (rb σ l0) E P : Nat) : Int) := o32 (by omega)
  have E4 : (Int32.ofNat K).toInt ≠ (Int32.ofNat (zBl (rb σ l0) E P)).toInt := by
    have h9 := h4
    rw [q_rs_10, q_rs_12] at h9
    exact h9
  rw [e2, e3] at E4
  have E5 : (Int32.ofNat K - Int32.ofNat (zBl (rb σ l0) E P)).toInt ≤ 3 := by
    have h9 := h5
    rw [q_rs_10, q_rs_12] at h9
    exact h9
  rw [e1] at E5
  rw [if_neg (by omega)]
  rfl
theorem sp_207_c4_tffft (a0 : Nat) (a1 : Int32) (a2 : Int32) (σ : zSg) (l0 : Nat) (l1 : Int32) (l2 : Int32) (l3 : Int32) (τ : zSg) (τ2 : zSg) (r2 : Int32) (hI : i_207 a0 a1 a2 σ l0 l1 l2 l3 τ) (g2 : p_201 l0 (Int32.ofInt (48)) (Int32.ofInt (57)) τ r2 τ2) (h3 : r2.toInt = (0 : Int)) (h4 : (q_i (τ2.1 l0 10)).toInt ≠ (q_i (τ2.1 l0 12)).toInt) (h5 : ((q_i (τ2.1 l0 10)) - (q_i (τ2.1 l0 12))).toInt ≤ (3 : Int)) (h6 : l3.toInt ≥ l1.toInt) (h7 : l3.toInt ≤ l2.toInt) :
    p_207 (a0) (a1) (a2) σ l3 τ2 := by
  obtain ⟨rfl, rfl, rfl, G⟩ := hI
  intro P E S
  obtain ⟨K, k0, k1, k2, k3, k4, rfl⟩ := G P E S
  have hE : E ≤ 400 := S.2.2.2.2
  have S1 := S.rs (Q := zBl (rb σ l0) E P) k1
  obtain rfl := g2.1.symm
  have hc := g2.f S1 h3
  rw [rb_rs S] at hc
  have hD : zDe (rb σ l0) E K = K := zRn_f (lo := 48) (hi := 57) hc
  rw [hD] at k2
  have hv := zDv_in (b := rb σ l0) (E := E) (A := zBl (rb σ l0) E P) (K - zBl (rb σ l0) E P) (by omega)
  refine ⟨?_, by rw [k2]⟩
  unfold zNm
  rw [k2, ← k4]
  have e1 : (Int32.ofNat K - Int32.ofNat (zBl (rb σ l0) E P)).toInt = (K : Int) - zBl (rb σ l0) E P := zI_sub (o32 (by omega)) (o32 (by omega)) (by omega) (by omega)
  have e2 : (Int32.ofNat K).toInt = (K : Int) := o32 (by omega)
  have e3 : (Int32.ofNat (zBl (rb σ l0) E P)).toInt = ((zBl (rb σ l0) E P : Nat) : Int) := o32 (by omega)
  have E4 : (Int32.ofNat K).toInt ≠ (Int32.ofNat (zBl (rb σ l0) E P)).toInt := by
    have h9 := h4
    rw [q_rs_10, q_rs_12] at h9
    exact h9
  rw [e2, e3] at E4
  have E5 : (Int32.ofNat K - Int32.ofNat (zBl (rb σ l0) E P)).toInt ≤ 3 := by
    have h9 := h5
    rw [q_rs_10, q_rs_12] at h9
    exact h9
  rw [e1] at E5
  rw [if_pos (by omega)]
theorem sp_207_c4_tffff (a0 : Nat) (a1 : Int32) (a2 : Int32) (σ : zSg) (l0 : Nat) (l1 : Int32) (l2 : Int32) (l3 : Int32) (τ : zSg) (τ2 : zSg) (r2 : Int32) (hI : i_207 a0 a1 a2 σ l0 l1 l2 l3 τ) (g2 : p_201 l0 (Int32.ofInt (48)) (Int32.ofInt (57)) τ r2 τ2) (h3 : r2.toInt = (0 : Int)) (h4 : (q_i (τ2.1 l0 10)).toInt ≠ (q_i (τ2.1 l0 12)).toInt) (h5 : ((q_i (τ2.1 l0 10)) - (q_i (τ2.1 l0 12))).toInt ≤ (3 : Int)) (h6 : l3.toInt ≥ l1.toInt) (h7 : l3.toInt > l2.toInt) :
    p_207 (a0) (a1) (a2) σ (Int32.ofInt (-1)) τ2 := by
  obtain ⟨rfl, rfl, rfl, G⟩ := hI
  intro P E S
  obtain ⟨K, k0, k1, k2, k3, k4, rfl⟩ := G P E S
  have hE : E ≤ 400 := S.2.2.2.2
  have S1 := S.rs (Q := zBl (rb σ l0) E P) k1
  obtain rfl := g2.1.symm
  have hc := g2.f S1 h3
  rw [rb_rs S] at hc
  have hD : zDe (rb σ l0) E K = K := zRn_f (lo := 48) (hi := 57) hc
  rw [hD] at k2
  have hv := zDv_in (b := rb σ l0) (E := E) (A := zBl (rb σ l0) E P) (K - zBl (rb σ l0) E P) (by omega)
  refine ⟨?_, by rw [k2]⟩
  unfold zNm
  rw [k2, ← k4]
  have e1 : (Int32.ofNat K - Int32.ofNat (zBl (rb σ l0) E P)).toInt = (K : Int) - zBl (rb σ l0) E P := zI_sub (o32 (by omega)) (o32 (by omega)) (by omega) (by omega)
  have e2 : (Int32.ofNat K).toInt = (K : Int) := o32 (by omega)
  have e3 : (Int32.ofNat (zBl (rb σ l0) E P)).toInt = ((zBl (rb σ l0) E P : Nat) : Int) := o32 (by omega)
  have E4 : (Int32.ofNat K).toInt ≠ (Int32.ofNat (zBl (rb σ l0) E P)).toInt := by
    have h9 := h4
    rw [q_rs_10, q_rs_12] at h9
    exact h9
  rw [e2, e3] at E4
  have E5 : (Int32.ofNat K - Int32.ofNat (zBl (rb σ l0) E P)).toInt ≤ 3 := by
    have h9 := h5
    rw [q_rs_10, q_rs_12] at h9
    exact h9
  rw [e1] at E5
  rw [if_neg (by omega)]
  rfl
theorem sp_207_c4_ft (a0 : Nat) (a1 : Int32) (a2 : Int32) (σ : zSg) (l0 : Nat) (l1 : Int32) (l2 : Int32) (l3 : Int32) (τ : zSg) (τ2 : zSg) (r2 : Int32) (hI : i_207 a0 a1 a2 σ l0 l1 l2 l3 τ) (g2 : p_201 l0 (Int32.ofInt (48)) (Int32.ofInt (57)) τ r2 τ2) (h3 : r2.toInt ≠ (0 : Int)) (h8 : ((q_i (τ2.1 l0 10)) - (q_i (τ2.1 l0 12))).toInt ≥ (3 : Int)) :
    i_207 a0 a1 a2 σ l0 l1 l2 l3 (q_w τ2 l0 10 (.int ((q_i (τ2.1 l0 10)) + (Int32.ofInt (1))))) := by
  obtain ⟨rfl, rfl, rfl, G⟩ := hI
  refine ⟨rfl, rfl, rfl, fun P E S => ?_⟩
  obtain ⟨K, k0, k1, k2, k3, k4, rfl⟩ := G P E S
  have hE : E ≤ 400 := S.2.2.2.2
  have S1 := S.rs (Q := zBl (rb σ l0) E P) k1
  obtain rfl := g2.1.symm
  have hc := g2.t S1 h3
  rw [rb_rs S] at hc
  have hD : zDe (rb σ l0) E K = zDe (rb σ l0) E (K + 1) := zRn_t (lo := 48) (hi := 57) hc
  have hK : K + 1 ≤ zDe (rb σ l0) E (zBl (rb σ l0) E P) := by rw [k2, hD]; exact zRn_ge
  refine ⟨K + 1, by omega, by omega, k2.trans hD, hK, ?_, ?_⟩
  · rw [show K + 1 - zBl (rb σ l0) E P = (K - zBl (rb σ l0) E P) + 1 by omega]
    rw [q_rs_10, q_rs_12] at h8
    have e1 : (Int32.ofNat K - Int32.ofNat (zBl (rb σ l0) E P)).toInt = (K : Int) - zBl (rb σ l0) E P := zI_sub (o32 (by omega)) (o32 (by omega)) (by omega) (by omega)
    have HC1 : (Int32.ofNat K - Int32.ofNat (zBl (rb σ l0) E P)).toInt ≥ 3 := h8
    rw [e1] at HC1
    unfold zDv
    rw [if_neg (by omega)]
    exact k4
  · rw [q_rs_10]
    show q_w (q_rs σ l0 K _) l0 10 (.int (Int32.ofNat K + Int32.ofInt 1)) = _
    rw [o32i (by omega), q_rs_pt]
theorem sp_207_c4_ff (a0 : Nat) (a1 : Int32) (a2 : Int32) (σ : zSg) (l0 : Nat) (l1 : Int32) (l2 : Int32) (l3 : Int32) (τ : zSg) (τ2 : zSg) (r2 : Int32) (hI : i_207 a0 a1 a2 σ l0 l1 l2 l3 τ) (g2 : p_201 l0 (Int32.ofInt (48)) (Int32.ofInt (57)) τ r2 τ2) (h3 : r2.toInt ≠ (0 : Int)) (h8 : ((q_i (τ2.1 l0 10)) - (q_i (τ2.1 l0 12))).toInt < (3 : Int)) (h9 : 0 ≤ (q_i (τ2.1 l0 10)).toInt ∧ (q_i (τ2.1 l0 10)).toInt < (τ2.2.1 (q_r (τ2.1 l0 8)) : Int)) :
    i_207 a0 a1 a2 σ l0 l1 l2 ((((Int32.ofInt (10)) * l3) + (q_i (τ2.1 (q_r (τ2.1 l0 8)) (q_i (τ2.1 l0 10)).toNatClampNeg))) - (Int32.ofInt (48))) (q_w τ2 l0 10 (.int ((q_i (τ2.1 l0 10)) + (Int32.ofInt (1))))) := by
  obtain ⟨rfl, rfl, rfl, G⟩ := hI
  refine ⟨rfl, rfl, rfl, fun P E S => ?_⟩
  obtain ⟨K, k0, k1, k2, k3, k4, rfl⟩ := G P E S
  have hE : E ≤ 400 := S.2.2.2.2
  have S1 := S.rs (Q := zBl (rb σ l0) E P) k1
  obtain rfl := g2.1.symm
  have hc := g2.t S1 h3
  rw [rb_rs S] at hc
  have hD : zDe (rb σ l0) E K = zDe (rb σ l0) E (K + 1) := zRn_t (lo := 48) (hi := 57) hc
  have hK : K + 1 ≤ zDe (rb σ l0) E (zBl (rb σ l0) E P) := by rw [k2, hD]; exact zRn_ge
  refine ⟨K + 1, by omega, by omega, k2.trans hD, hK, ?_, ?_⟩
  · rw [show K + 1 - zBl (rb σ l0) E P = (K - zBl (rb σ l0) E P) + 1 by omega]
    rw [q_rs_10, q_rs_12] at h8
    have e1 : (Int32.ofNat K - Int32.ofNat (zBl (rb σ l0) E P)).toInt = (K : Int) - zBl (rb σ l0) E P := zI_sub (o32 (by omega)) (o32 (by omega)) (by omega) (by omega)
    have HC1 : (Int32.ofNat K - Int32.ofNat (zBl (rb σ l0) E P)).toInt < 3 := h8
    rw [e1] at HC1
    unfold zDv
    rw [if_pos (by omega), show zBl (rb σ l0) E P + (K - zBl (rb σ l0) E P) = K by omega]
    have hv := zDv_in (b := rb σ l0) (E := E) (A := zBl (rb σ l0) E P) (K - zBl (rb σ l0) E P) (by omega)
    have hx : (q_i ((q_rs σ l0 K (zBl (rb σ l0) E P)).1 (q_r ((q_rs σ l0 K (zBl (rb σ l0) E P)).1 l0 8)) (q_i ((q_rs σ l0 K (zBl (rb σ l0) E P)).1 l0 10)).toNatClampNeg)).toInt = rb σ l0 K := by
      rw [q_rs_10]
      show (q_i ((q_rs σ l0 K (zBl (rb σ l0) E P)).1 (q_r ((q_rs σ l0 K (zBl (rb σ l0) E P)).1 l0 8)) (Int32.ofNat K).toNatClampNeg)).toInt = rb σ l0 K
      rw [o32n (by omega)]
      exact congrFun (rb_rs (K := K) (Q := zBl (rb σ l0) E P) S) K
    have m1 : (Int32.ofInt 10 * l3).toInt = 10 * l3.toInt := by
      rw [Int32.toInt_mul, zI_c (by omega) (by omega)]
      exact z_bm (by omega) (by omega)
    have hb9 := hc.2
    have c48 : (Int32.ofInt 48).toInt = 48 := rfl
    have c57 : (Int32.ofInt 57).toInt = 57 := rfl
    rw [zI_sub (zI_add m1 hx (by omega) (by omega)) c48 (by omega) (by omega), k4]
  · rw [q_rs_10]
    show q_w (q_rs σ l0 K _) l0 10 (.int (Int32.ofNat K + Int32.ofInt 1)) = _
    rw [o32i (by omega), q_rs_pt]
noncomputable def qP_207 : zPp := fun as σ o σ' => match as with
  | [a0, a1, a2] => ∃ r, o = .inl (some (.int r)) ∧ p_207 (q_r a0) (q_i a1) (q_i a2) σ r σ'
  | _ => True
set_option maxRecDepth 100000 in
theorem sp_207 {sx : zX} (S202 : zEe sx 202 1 qP_202) (S201 : zEe sx 201 3 qP_201) : zEe sx 207 3 qP_207 := by
  refine zfle zJ_207 (sps := [(202, 1, qP_202), (201, 3, qP_201)]) (fun q hq => by
    simp only [List.mem_cons, List.not_mem_nil, or_false] at hq
    rcases hq with rfl | rfl
    · exact S202
    · exact S201) (fun as σ hl => ?_)
  match as, hl with
  | [a0, a1, a2], _ =>
  refine ⟨[(4, fun lo st τ => st = [] ∧ i_207 (q_r a0) (q_i a1) (q_i a2) σ (q_r (lo 0)) (q_i (lo 1)) (q_i (lo 2)) (q_i (lo 3)) τ)], 400, ?_, ?_⟩
  · intro q hq
    simp only [List.mem_cons, List.not_mem_nil, or_false] at hq
    rcases hq with rfl
    · rintro lo st τ ⟨rfl, hI⟩
      refine ⟨400, ?_⟩
      refine fun o2 τ2 g2 => ?_
      obtain ⟨r2, rfl, g2⟩ := g2
      refine And.intro (fun h3 => ?_) (fun h3 => ?_)
      · refine And.intro (fun h4 => ?_) (fun h4 => ?_)
        · exact ⟨_, rfl, sp_207_c4_tt (q_r a0) (q_i a1) (q_i a2) σ (q_r (lo 0)) (q_i (lo 1)) (q_i (lo 2)) (q_i (lo 3)) τ τ2 r2 hI g2 (cm0t h3) (cm0t h4)⟩
        · refine And.intro (fun h5 => ?_) (fun h5 => ?_)
          · exact ⟨_, rfl, sp_207_c4_tft (q_r a0) (q_i a1) (q_i a2) σ (q_r (lo 0)) (q_i (lo 1)) (q_i (lo 2)) (q_i (lo 3)) τ τ2 r2 hI g2 (cm0t h3) (cm0f h4) (cm4t h5)⟩
          · refine And.intro (fun h6 => ?_) (fun h6 => ?_)
            · exact ⟨_, rfl, sp_207_c4_tfft (q_r a0) (q_i a1) (q_i a2) σ (q_r (lo 0)) (q_i (lo 1)) (q_i (lo 2)) (q_i (lo 3)) τ τ2 r2 hI g2 (cm0t h3) (cm0f h4) (cm4f h5) (cm2t h6)⟩
            · refine And.intro (fun h7 => ?_) (fun h7 => ?_)
              · exact ⟨_, rfl, sp_207_c4_tffft (q_r a0) (q_i a1) (q_i a2) σ (q_r (lo 0)) (q_i (lo 1)) (q_i (lo 2)) (q_i (lo 3)) τ τ2 r2 hI g2 (cm0t h3) (cm0f h4) (cm4f h5) (cm2f h6) (cm5t h7)⟩
              · exact ⟨_, rfl, sp_207_c4_tffff (q_r a0) (q_i a1) (q_i a2) σ (q_r (lo 0)) (q_i (lo 1)) (q_i (lo 2)) (q_i (lo 3)) τ τ2 r2 hI g2 (cm0t h3) (cm0f h4) (cm4f h5) (cm2f h6) (cm5f h7)⟩
      · refine And.intro (fun h8 => ?_) (fun h8 => ?_)
        · exact ⟨rfl, sp_207_c4_ft (q_r a0) (q_i a1) (q_i a2) σ (q_r (lo 0)) (q_i (lo 1)) (q_i (lo 2)) (q_i (lo 3)) τ τ2 r2 hI g2 (cm0f h3) (cm3t h8)⟩
        · refine fun h9 => ?_
          exact ⟨rfl, sp_207_c4_ff (q_r a0) (q_i a1) (q_i a2) σ (q_r (lo 0)) (q_i (lo 1)) (q_i (lo 2)) (q_i (lo 3)) τ τ2 r2 hI g2 (cm0f h3) (cm3f h8) (q_inp h9)⟩
  · refine fun o1 τ1 g1 => ?_
    obtain ⟨rfl, g1⟩ := g1
    exact ⟨rfl, sp_207_e (q_r a0) (q_i a1) (q_i a2) σ τ1 g1⟩
