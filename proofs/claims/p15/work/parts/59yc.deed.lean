/-! the reference's readers of a deed, exact; printed with wip/gen/gen_d1.py -/
theorem qsi_42 : q_si (zB + 42) = wTo := by decide +kernel
theorem qsi_43 : q_si (zB + 43) = wPurse := by decide +kernel
theorem qsi_45 : q_si (zB + 45) = wStove := by decide +kernel
theorem qsi_46 : q_si (zB + 46) = wHours := by decide +kernel
theorem qsi_47 : q_si (zB + 47) = wWishes := by decide +kernel
theorem qsi_48 : q_si (zB + 48) = wBulk := by decide +kernel
theorem qsi_51 : q_si (zB + 51) = wFree := by decide +kernel
theorem qsi_52 : q_si (zB + 52) = wThing := by decide +kernel
theorem qsi_53 : q_si (zB + 53) = wCold := by decide +kernel
theorem qsi_55 : q_si (zB + 55) = wPrice := by decide +kernel
theorem qsi_56 : q_si (zB + 56) = wGuests := by decide +kernel
noncomputable def rW (σ : zSg) (A : Nat → Int32) : Prop := σ.1 205 1 = .ref 206 ∧ ∀ k, k < 388 → σ.1 206 k = .int (A k)
noncomputable def rD (σ : zSg) (b : Nat → Int) (P E : Nat) (A : Nat → Int32) : Prop := rS σ 205 P E ∧ rb σ 205 = b ∧ σ.1 205 8 = .ref 211 ∧ rW σ A
noncomputable def rDF (σ σ' : zSg) : Prop := σ'.2 = σ.2 ∧ ∀ c k, ¬ (c = 205 ∧ (k = 10 ∨ k = 12)) → ¬ (c = 206 ∧ k < 88) → σ'.1 c k = σ.1 c k
section RDE
variable {σ τ υ : zSg} {b : Nat → Int} {P E : Nat} {A : Nat → Int32}
theorem rW.q (H : rW σ A) : q_r (σ.1 205 1) = 206 := by rw [H.1]; rfl
theorem rW.i (H : rW σ A) {k : Nat} (h : k < 388) : q_i (σ.1 206 k) = A k := by rw [H.2 k h]; rfl
theorem rW.ww {k : Nat} {v : Int32} (H : rW σ A) : rW (q_w σ 206 k (.int v)) (aU A k v) := by
  refine ⟨?_, fun i hi => ?_⟩
  · rw [q_w_ne (fun q _ => by omega)]; exact H.1
  · unfold aU
    by_cases h : i = k
    · rw [if_pos h, h, q_w_at]
    · rw [if_neg h, q_w_ne (fun _ q => h q)]; exact H.2 i hi
theorem rW.cg {B : Nat → Int32} (H : rW σ A) (h : ∀ k, k < 388 → A k = B k) : rW σ B := ⟨H.1, fun k hk => by rw [← h k hk]; exact H.2 k hk⟩
theorem rD.w (H : rD σ b P E A) : rW σ A := H.2.2.2
theorem rD.q (H : rD σ b P E A) : q_r (σ.1 205 1) = 206 := H.w.q
theorem rD.le (H : rD σ b P E A) : P ≤ E ∧ E ≤ 400 := H.1.2.2.2
theorem rD.bl (H : rD σ b P E A) : zBl b E P ≤ E := zBl_le H.le.1
theorem rD.rs {K Q : Nat} (H : rD σ b P E A) (h : K ≤ E) : rD (q_rs σ 205 K Q) b K E A := by
  obtain ⟨h1, h2, h3, h4, h5⟩ := H
  refine ⟨h1.rs h, (rb_rs h1).trans h2, ?_, ?_, fun k hk => ?_⟩
  · show (q_w (q_w σ 205 10 _) 205 12 _).1 205 8 = _
    rw [q_w_ne (fun _ q => by omega), q_w_ne (fun _ q => by omega)]; exact h3
  · show (q_w (q_w σ 205 10 _) 205 12 _).1 205 1 = _
    rw [q_w_ne (fun _ q => by omega), q_w_ne (fun _ q => by omega)]; exact h4
  · show (q_w (q_w σ 205 10 _) 205 12 _).1 206 k = _
    rw [q_w_ne (fun q _ => by omega), q_w_ne (fun q _ => by omega)]; exact h5 k hk
theorem rD.ww {k : Nat} {v : Int32} (H : rD σ b P E A) : rD (q_w σ 206 k (.int v)) b P E (aU A k v) := by
  obtain ⟨⟨g1, g2, g3, g4, g5⟩, h2, h3, h4⟩ := H
  have e : ∀ i, (q_w σ 206 k (.int v)).1 205 i = σ.1 205 i := fun i => q_w_ne (fun q _ => by omega)
  refine ⟨⟨?_, ?_, ?_, g4, g5⟩, ?_, ?_, h4.ww⟩
  · rw [e]; exact g1
  · rw [e]; exact g2
  · rw [e]; exact g3
  · rw [← h2]
    funext i
    unfold rb
    rw [e, h3]
    show (q_i ((q_w σ 206 k (.int v)).1 211 i)).toInt = (q_i (σ.1 211 i)).toInt
    rw [q_w_ne (fun q _ => by omega)]
  · rw [e]; exact h3
theorem rD.cg {B : Nat → Int32} (H : rD σ b P E A) (h : ∀ k, k < 388 → A k = B k) : rD σ b P E B := ⟨H.1, H.2.1, H.2.2.1, H.w.cg h⟩
theorem rDF.rf : rDF σ σ := ⟨rfl, fun _ _ _ _ => rfl⟩
theorem rDF.tr (h1 : rDF σ τ) (h2 : rDF τ υ) : rDF σ υ := ⟨h2.1.trans h1.1, fun c k q1 q2 => (h2.2 c k q1 q2).trans (h1.2 c k q1 q2)⟩
theorem rDF.w {k : Nat} {v : Value} (h : k = 10 ∨ k = 12) : rDF σ (q_w σ 205 k v) := ⟨rfl, fun c i q1 _ => q_w_ne (fun e1 e2 => q1 ⟨e1, by omega⟩)⟩
theorem rDF.rs {K Q : Nat} : rDF σ (q_rs σ 205 K Q) := (rDF.w (Or.inl rfl)).tr (rDF.w (Or.inr rfl))
theorem rDF.ww {k : Nat} {v : Value} (h : k < 88) : rDF σ (q_w σ 206 k v) := ⟨rfl, fun c i _ q2 => q_w_ne (fun e1 e2 => q2 ⟨e1, by omega⟩)⟩
/-- a number, or none -/
abbrev rON (σ' : zSg) (b : Nat → Int) (E : Nat) (A : Nat → Int32) (r : Int32) (R : (Nat × Nat) ⊕ Nat) : Prop := match R with
  | .inl (A1, v) => r = Int32.ofNat v ∧ v ≤ 1110 ∧ ∃ P', zBl b E P' = A1 ∧ rD σ' b P' E A
  | .inr F => r.toInt = -1 ∧ σ'.1 205 12 = .int (Int32.ofNat F)
abbrev rOB (σ' : zSg) (b : Nat → Int) (E : Nat) (A : Nat → Int32) (r : Int32) (R : (Nat × Int32) ⊕ Nat) : Prop := match R with
  | .inl (A1, v) => r = v ∧ 0 ≤ v.toInt ∧ ∃ P', zBl b E P' = A1 ∧ rD σ' b P' E A
  | .inr F => r.toInt = -1 ∧ σ'.1 205 12 = .int (Int32.ofNat F)
abbrev rOL (σ' : zSg) (b : Nat → Int) (E nf nt : Nat) (A : Nat → Int32) (r : Int32) (R : (Nat × dOp) ⊕ Nat) : Prop := match R with
  | .inl (A1, o) => r.toInt ≠ 0 ∧ ∃ P', zBl b E P' = A1 ∧ rD σ' b P' E (dApp nf nt A o)
  | .inr F => r.toInt = 0 ∧ σ'.1 205 12 = .int (Int32.ofNat F)
theorem rD.nb {lo hi r : Int32} (H : rD σ b P E A) (G : p_207 205 lo hi σ r τ) : rDF σ τ ∧ ((∃ v A1, tn b E lo.toInt hi.toInt (zBl b E P) = some (A1, v) ∧ r = Int32.ofNat v ∧ v ≤ 1110 ∧ r.toInt = (v : Int) ∧ (lo.toInt ≤ v ∧ (v : Int) ≤ hi.toInt) ∧ ∃ P', zBl b E P' = A1 ∧ rD τ b P' E A) ∨ (tn b E lo.toInt hi.toInt (zBl b E P) = none ∧ r.toInt = -1 ∧ τ.1 205 12 = .int (Int32.ofNat (zBl b E P)))) := by
  obtain ⟨g1, rfl⟩ := G P E H.1
  rw [H.2.1] at g1 ⊢
  refine ⟨rDF.rs, ?_⟩
  by_cases h : 0 ≤ zNm b E lo.toInt hi.toInt (zBl b E P)
  · have hv := zNm_ge (b := b) (E := E) (lo := lo.toInt) (hi := hi.toInt) (A := zBl b E P) (by omega)
    have hz : lo.toInt ≤ zNm b E lo.toInt hi.toInt (zBl b E P) ∧ zNm b E lo.toInt hi.toInt (zBl b E P) ≤ hi.toInt := by
      unfold zNm at h ⊢
      split
      · next q => exact ⟨q.2.2.1, q.2.2.2⟩
      · next q => rw [if_neg q] at h; omega
    refine Or.inl ⟨(zNm b E lo.toInt hi.toInt (zBl b E P)).toNat, _, by unfold tn; rw [if_pos h], ?_, by omega, by omega, by omega, zDe b E (zBl b E P), rfl, H.rs (zRn_le H.bl)⟩
    refine Int32.toInt_inj.mp ?_
    rw [g1, Int32.toInt_ofNat_of_lt (by omega)]
    omega
  · refine Or.inr ⟨by unfold tn; rw [if_neg h], ?_, q_rs_12⟩
    rw [g1]
    unfold zNm at h ⊢
    split
    · next q =>
      rw [if_pos q] at h
      have := zDv_in (b := b) (E := E) (A := zBl b E P) (zDe b E (zBl b E P) - zBl b E P) (by have := zRn_ge (b := b) (E := E) (lo := 48) (hi := 57) (P := zBl b E P); unfold zDe; omega)
      omega
    · rfl
theorem rD.ps {w : Nat} {s : List Int} {r : Int32} (H : rD σ b P E A) (G : p_205 205 w σ r τ) (hs : q_si w = s) (hn : s.length ≤ 100) : rDF σ τ ∧ τ.1 205 12 = .int (Int32.ofNat (zBl b E P)) ∧ (r.toInt ≠ 0 → ∃ P', tw b E s (zBl b E P) = some (zBl b E P') ∧ rD τ b P' E A) ∧ (r.toInt = 0 → tw b E s (zBl b E P) = none ∧ rD τ b (zBl b E P) E A) := by
  have hl : (q_s w).length = s.length := by rw [← hs, q_si_len]
  have hb := H.2.1
  rcases G P E H.1 (by omega) with ⟨g1, g2, rfl⟩ | ⟨g1, g2, rfl⟩ <;> rw [hb, hs] at g2
  · refine ⟨rDF.rs, by rw [hb]; exact q_rs_12, fun _ => ⟨zBl b E P + s.length, tw_pos g2, ?_⟩, fun h => absurd h g1⟩
    rw [hb, hl]
    have h8 : zRn b E 97 122 (zBl b E P) = zBl b E P + s.length := g2.1
    exact H.rs (by rw [← h8]; exact zRn_le H.bl)
  · refine ⟨rDF.rs, by rw [hb]; exact q_rs_12, fun h => absurd g1 h, fun _ => ⟨tw_neg g2, ?_⟩⟩
    rw [hb]
    exact H.rs H.bl
theorem rD.lt (H : rD σ b P E A) (G : p_203 205 σ τ) : rDF σ τ ∧ τ.1 205 12 = .int (Int32.ofNat (zBl b E P)) ∧ rD τ b (zLt b E (zBl b E P)) E A := by
  have := G P E H.1
  rw [H.2.1] at this
  subst this
  exact ⟨rDF.rs, q_rs_12, H.rs (zRn_le H.bl)⟩
theorem rD.wd {w B : Nat} {s : List Int} {r : Int32} (H : rD τ b (zLt b E B) E A) (h12 : τ.1 205 12 = .int (Int32.ofNat B)) (G : p_204 205 w τ r υ) (hs : q_si w = s) (hn : s.length ≤ 100) : υ = τ ∧ (r.toInt ≠ 0 → tw b E s B = some (zBl b E (zLt b E B))) ∧ (r.toInt = 0 → tw b E s B = none) := by
  have hl : (q_s w).length = s.length := by rw [← hs, q_si_len]
  obtain ⟨g1, g2⟩ := G
  have g3 := g2 _ B E H.1 h12 zRn_ge (by omega)
  rw [H.2.1, hs] at g3
  refine ⟨g1, fun h => ?_, fun h => tw_neg (fun q => absurd h (g3.mpr q))⟩
  have h4 : zWa b E s B := g3.mp h
  rw [tw_pos h4]
  have h5 : zLt b E B = B + s.length := h4.1
  rw [h5]
end RDE
theorem at4_0 {f : Nat} (h : f < 6) : (Int32.ofInt 40 + Int32.ofInt 4 * Int32.ofNat f + Int32.ofInt (0)).toNatClampNeg = 40 + 4 * f := by
  have : (List.range 6).all (fun f => decide ((Int32.ofInt 40 + Int32.ofInt 4 * Int32.ofNat f + Int32.ofInt (0)).toNatClampNeg = 40 + 4 * f)) = true := by decide +kernel
  exact of_decide_eq_true (List.all_eq_true.mp this f (List.mem_range.mpr h))
theorem at4_1 {f : Nat} (h : f < 6) : (Int32.ofInt 40 + Int32.ofInt 4 * Int32.ofNat f + Int32.ofInt (1)).toNatClampNeg = 41 + 4 * f := by
  have : (List.range 6).all (fun f => decide ((Int32.ofInt 40 + Int32.ofInt 4 * Int32.ofNat f + Int32.ofInt (1)).toNatClampNeg = 41 + 4 * f)) = true := by decide +kernel
  exact of_decide_eq_true (List.all_eq_true.mp this f (List.mem_range.mpr h))
theorem at4_2 {f : Nat} (h : f < 6) : (Int32.ofInt 40 + Int32.ofInt 4 * Int32.ofNat f + Int32.ofInt (2)).toNatClampNeg = 42 + 4 * f := by
  have : (List.range 6).all (fun f => decide ((Int32.ofInt 40 + Int32.ofInt 4 * Int32.ofNat f + Int32.ofInt (2)).toNatClampNeg = 42 + 4 * f)) = true := by decide +kernel
  exact of_decide_eq_true (List.all_eq_true.mp this f (List.mem_range.mpr h))
theorem at4_3 {f : Nat} (h : f < 6) : (Int32.ofInt 40 + Int32.ofInt 4 * Int32.ofNat f + Int32.ofInt (3)).toNatClampNeg = 43 + 4 * f := by
  have : (List.range 6).all (fun f => decide ((Int32.ofInt 40 + Int32.ofInt 4 * Int32.ofNat f + Int32.ofInt (3)).toNatClampNeg = 43 + 4 * f)) = true := by decide +kernel
  exact of_decide_eq_true (List.all_eq_true.mp this f (List.mem_range.mpr h))
theorem at3_0 {f : Nat} (h : f < 8) : (Int32.ofInt 64 + Int32.ofInt 3 * Int32.ofNat f + Int32.ofInt (0)).toNatClampNeg = 64 + 3 * f := by
  have : (List.range 8).all (fun f => decide ((Int32.ofInt 64 + Int32.ofInt 3 * Int32.ofNat f + Int32.ofInt (0)).toNatClampNeg = 64 + 3 * f)) = true := by decide +kernel
  exact of_decide_eq_true (List.all_eq_true.mp this f (List.mem_range.mpr h))
theorem at3_1 {f : Nat} (h : f < 8) : (Int32.ofInt 64 + Int32.ofInt 3 * Int32.ofNat f + Int32.ofInt (1)).toNatClampNeg = 65 + 3 * f := by
  have : (List.range 8).all (fun f => decide ((Int32.ofInt 64 + Int32.ofInt 3 * Int32.ofNat f + Int32.ofInt (1)).toNatClampNeg = 65 + 3 * f)) = true := by decide +kernel
  exact of_decide_eq_true (List.all_eq_true.mp this f (List.mem_range.mpr h))
theorem at3_2 {f : Nat} (h : f < 8) : (Int32.ofInt 64 + Int32.ofInt 3 * Int32.ofNat f + Int32.ofInt (2)).toNatClampNeg = 66 + 3 * f := by
  have : (List.range 8).all (fun f => decide ((Int32.ofInt 64 + Int32.ofInt 3 * Int32.ofNat f + Int32.ofInt (2)).toNatClampNeg = 66 + 3 * f)) = true := by decide +kernel
  exact of_decide_eq_true (List.all_eq_true.mp this f (List.mem_range.mpr h))
theorem n24 {n : Nat} (h : n < 24) : Int32.ofNat n + Int32.ofInt 1 - (Int32.ofNat n + Int32.ofInt 1) / Int32.ofInt 24 * Int32.ofInt 24 = Int32.ofNat ((n + 1) % 24) := by
  have : (List.range 24).all (fun n => decide (Int32.ofNat n + Int32.ofInt 1 - (Int32.ofNat n + Int32.ofInt 1) / Int32.ofInt 24 * Int32.ofInt 24 = Int32.ofNat ((n + 1) % 24))) = true := by decide +kernel
  exact of_decide_eq_true (List.all_eq_true.mp this n (List.mem_range.mpr h))
theorem h16 {n : Nat} (h : n < 24) : (Int32.ofInt 16 + Int32.ofNat n).toNatClampNeg = 16 + n := by
  have : (List.range 24).all (fun n => decide ((Int32.ofInt 16 + Int32.ofNat n).toNatClampNeg = 16 + n)) = true := by decide +kernel
  exact of_decide_eq_true (List.all_eq_true.mp this n (List.mem_range.mpr h))
theorem zJ_184 : zJ3 184 z_m184 z_c184 z_h184 := ⟨rfl, rfl, rfl⟩
noncomputable def p_184 (a : Nat) (σ : zSg) (r : Int32) (σ' : zSg) : Prop := σ' = σ ∧ (a = 205 → ∀ A, rW σ A → r = A 0)
theorem sp_184_e (a0 : Nat) (σ : zSg) (h1 : 0 ≤ (Int32.ofInt (0)).toInt ∧ (Int32.ofInt (0)).toInt < (σ.2.1 (q_r (σ.1 a0 1)) : Int)) :
    p_184 (a0) σ (q_i (σ.1 (q_r (σ.1 a0 1)) (Int32.ofInt (0)).toNatClampNeg)) σ := by
  exact ⟨rfl, fun h A H => by subst h; rw [H.q]; exact H.i (k := 0) (by omega)⟩
noncomputable def qP_184 : zPp := fun as σ o σ' => match as with
  | [a0] => ∃ r, o = .inl (some (.int r)) ∧ p_184 (q_r a0) σ r σ'
  | _ => True
set_option maxRecDepth 100000 in
theorem sp_184 {sx : zX}  : zEe sx 184 1 qP_184 := by
  refine zfle zJ_184 (sps := []) (fun q hq => absurd hq List.not_mem_nil) (fun as σ hl => ?_)
  match as, hl with
  | [a0], _ =>
  refine ⟨[], 400, ?_, ?_⟩
  · exact fun q hq => absurd hq List.not_mem_nil
  · refine fun h1 => ?_
    exact ⟨_, rfl, sp_184_e (q_r a0) σ (q_inp h1)⟩
theorem zJ_185 : zJ3 185 z_m185 z_c185 z_h185 := ⟨rfl, rfl, rfl⟩
noncomputable def p_185 (a : Nat) (σ : zSg) (r : Int32) (σ' : zSg) : Prop := σ' = σ ∧ (a = 205 → ∀ A, rW σ A → r = A 1)
theorem sp_185_e (a0 : Nat) (σ : zSg) (h1 : 0 ≤ (Int32.ofInt (1)).toInt ∧ (Int32.ofInt (1)).toInt < (σ.2.1 (q_r (σ.1 a0 1)) : Int)) :
    p_185 (a0) σ (q_i (σ.1 (q_r (σ.1 a0 1)) (Int32.ofInt (1)).toNatClampNeg)) σ := by
  exact ⟨rfl, fun h A H => by subst h; rw [H.q]; exact H.i (k := 1) (by omega)⟩
noncomputable def qP_185 : zPp := fun as σ o σ' => match as with
  | [a0] => ∃ r, o = .inl (some (.int r)) ∧ p_185 (q_r a0) σ r σ'
  | _ => True
set_option maxRecDepth 100000 in
theorem sp_185 {sx : zX}  : zEe sx 185 1 qP_185 := by
  refine zfle zJ_185 (sps := []) (fun q hq => absurd hq List.not_mem_nil) (fun as σ hl => ?_)
  match as, hl with
  | [a0], _ =>
  refine ⟨[], 400, ?_, ?_⟩
  · exact fun q hq => absurd hq List.not_mem_nil
  · refine fun h1 => ?_
    exact ⟨_, rfl, sp_185_e (q_r a0) σ (q_inp h1)⟩
theorem zJ_186 : zJ3 186 z_m186 z_c186 z_h186 := ⟨rfl, rfl, rfl⟩
noncomputable def p_186 (a : Nat) (h : Int32) (σ : zSg) (r : Int32) (σ' : zSg) : Prop := σ' = σ ∧ (a = 205 → ∀ A n, rW σ A → h = Int32.ofNat n → n < 24 → r = A (16 + n))
theorem sp_186_e (a0 : Nat) (a1 : Int32) (σ : zSg) (h1 : 0 ≤ ((Int32.ofInt (16)) + a1).toInt ∧ ((Int32.ofInt (16)) + a1).toInt < (σ.2.1 (q_r (σ.1 a0 1)) : Int)) :
    p_186 (a0) (a1) σ (q_i (σ.1 (q_r (σ.1 a0 1)) ((Int32.ofInt (16)) + a1).toNatClampNeg)) σ := by
  exact ⟨rfl, fun h A n H hn hl => by subst h; rw [hn, h16 hl, H.q]; exact H.i (by omega)⟩
noncomputable def qP_186 : zPp := fun as σ o σ' => match as with
  | [a0, a1] => ∃ r, o = .inl (some (.int r)) ∧ p_186 (q_r a0) (q_i a1) σ r σ'
  | _ => True
set_option maxRecDepth 100000 in
theorem sp_186 {sx : zX}  : zEe sx 186 2 qP_186 := by
  refine zfle zJ_186 (sps := []) (fun q hq => absurd hq List.not_mem_nil) (fun as σ hl => ?_)
  match as, hl with
  | [a0, a1], _ =>
  refine ⟨[], 400, ?_, ?_⟩
  · exact fun q hq => absurd hq List.not_mem_nil
  · refine fun h1 => ?_
    exact ⟨_, rfl, sp_186_e (q_r a0) (q_i a1) σ (q_inp h1)⟩
noncomputable def p_187 (h : Int32) (σ : zSg) (r : Int32) (σ' : zSg) : Prop := σ' = σ ∧ ∀ n, h = Int32.ofNat n → n < 24 → r = Int32.ofNat ((n + 1) % 24)
theorem sp_187_e (a0 : Int32) (σ : zSg)  :
    p_187 (a0) σ ((a0 + (Int32.ofInt (1))) - (a0 + (Int32.ofInt (1))) / (Int32.ofInt (24)) * (Int32.ofInt (24))) σ := by
  exact ⟨rfl, fun n hn hl => by rw [hn]; exact n24 hl⟩
noncomputable def qP_187 : zPp := fun as σ o σ' => match as with
  | [a0] => ∃ r, o = .inl (some (.int r)) ∧ p_187 (q_i a0) σ r σ'
  | _ => True
set_option maxRecDepth 100000 in
theorem sp_187 {sx : zX}  : zEe sx 187 1 qP_187 := by
  refine zfle zJ_187 (sps := []) (fun q hq => absurd hq List.not_mem_nil) (fun as σ hl => ?_)
  match as, hl with
  | [a0], _ =>
  refine ⟨[], 400, ?_, ?_⟩
  · exact fun q hq => absurd hq List.not_mem_nil
  · exact ⟨_, rfl, sp_187_e (q_i a0) σ ⟩
noncomputable def p_178 (x k : Int32) (σ : zSg) (r : Int32) (σ' : zSg) : Prop := σ' = σ ∧ r = if btb x k = true then Int32.ofInt 1 else Int32.ofInt 0
theorem sp_178_et (a0 : Int32) (a1 : Int32) (σ : zSg) (h1 : ((a0 >>> (a1 &&& 31)) &&& (Int32.ofInt (1))).toInt ≠ (1 : Int)) :
    p_178 (a0) (a1) σ (Int32.ofInt (0)) σ := by
  exact ⟨rfl, (if_neg (fun q => h1 (of_decide_eq_true q))).symm⟩
theorem sp_178_ef (a0 : Int32) (a1 : Int32) (σ : zSg) (h1 : ((a0 >>> (a1 &&& 31)) &&& (Int32.ofInt (1))).toInt = (1 : Int)) :
    p_178 (a0) (a1) σ (Int32.ofInt (1)) σ := by
  exact ⟨rfl, (if_pos (decide_eq_true h1)).symm⟩
noncomputable def qP_178 : zPp := fun as σ o σ' => match as with
  | [a0, a1] => ∃ r, o = .inl (some (.int r)) ∧ p_178 (q_i a0) (q_i a1) σ r σ'
  | _ => True
set_option maxRecDepth 100000 in
theorem sp_178 {sx : zX}  : zEe sx 178 2 qP_178 := by
  refine zfle zJ_178 (sps := []) (fun q hq => absurd hq List.not_mem_nil) (fun as σ hl => ?_)
  match as, hl with
  | [a0, a1], _ =>
  refine ⟨[], 400, ?_, ?_⟩
  · exact fun q hq => absurd hq List.not_mem_nil
  · refine And.intro (fun h1 => ?_) (fun h1 => ?_)
    · exact ⟨_, rfl, sp_178_et (q_i a0) (q_i a1) σ (cm1t h1)⟩
    · exact ⟨_, rfl, sp_178_ef (q_i a0) (q_i a1) σ (cm1f h1)⟩
theorem zJ_189 : zJ3 189 z_m189 z_c189 z_h189 := ⟨rfl, rfl, rfl⟩
noncomputable def p_189 (f w : Int32) (σ : zSg) (r : Int32) (σ' : zSg) : Prop := σ' = σ ∧ r = Int32.ofInt 40 + Int32.ofInt 4 * f + w
theorem sp_189_e (a0 : Int32) (a1 : Int32) (σ : zSg)  :
    p_189 (a0) (a1) σ (((Int32.ofInt (40)) + ((Int32.ofInt (4)) * a0)) + a1) σ := by
  exact ⟨rfl, rfl⟩
noncomputable def qP_189 : zPp := fun as σ o σ' => match as with
  | [a0, a1] => ∃ r, o = .inl (some (.int r)) ∧ p_189 (q_i a0) (q_i a1) σ r σ'
  | _ => True
set_option maxRecDepth 100000 in
theorem sp_189 {sx : zX}  : zEe sx 189 2 qP_189 := by
  refine zfle zJ_189 (sps := []) (fun q hq => absurd hq List.not_mem_nil) (fun as σ hl => ?_)
  match as, hl with
  | [a0, a1], _ =>
  refine ⟨[], 400, ?_, ?_⟩
  · exact fun q hq => absurd hq List.not_mem_nil
  · exact ⟨_, rfl, sp_189_e (q_i a0) (q_i a1) σ ⟩
theorem zJ_192 : zJ3 192 z_m192 z_c192 z_h192 := ⟨rfl, rfl, rfl⟩
noncomputable def p_192 (f w : Int32) (σ : zSg) (r : Int32) (σ' : zSg) : Prop := σ' = σ ∧ r = Int32.ofInt 64 + Int32.ofInt 3 * f + w
theorem sp_192_e (a0 : Int32) (a1 : Int32) (σ : zSg)  :
    p_192 (a0) (a1) σ (((Int32.ofInt (64)) + ((Int32.ofInt (3)) * a0)) + a1) σ := by
  exact ⟨rfl, rfl⟩
noncomputable def qP_192 : zPp := fun as σ o σ' => match as with
  | [a0, a1] => ∃ r, o = .inl (some (.int r)) ∧ p_192 (q_i a0) (q_i a1) σ r σ'
  | _ => True
set_option maxRecDepth 100000 in
theorem sp_192 {sx : zX}  : zEe sx 192 2 qP_192 := by
  refine zfle zJ_192 (sps := []) (fun q hq => absurd hq List.not_mem_nil) (fun as σ hl => ?_)
  match as, hl with
  | [a0, a1], _ =>
  refine ⟨[], 400, ?_, ?_⟩
  · exact fun q hq => absurd hq List.not_mem_nil
  · exact ⟨_, rfl, sp_192_e (q_i a0) (q_i a1) σ ⟩
theorem zJ_208 : zJ3 208 z_m208 z_c208 z_h208 := ⟨rfl, rfl, rfl⟩
noncomputable def p_208 (a w : Nat) (lo hi : Int32) (σ : zSg) (r : Int32) (σ' : zSg) : Prop := a = 205 → ∀ b P E A, rD σ b P E A → (q_s w).length ≤ 100 → rDF σ σ' ∧ rON σ' b E A r (dAf b E (q_si w) lo.toInt hi.toInt (zBl b E P))
theorem sp_208_et (a0 : Nat) (a1 : Nat) (a2 : Int32) (a3 : Int32) (σ : zSg) (τ1 : zSg) (τ2 : zSg) (r2 : Int32) (g1 : p_203 a0 σ τ1) (g2 : p_204 a0 a1 τ1 r2 τ2) (h3 : r2.toInt = (0 : Int)) :
    p_208 (a0) (a1) (a2) (a3) σ (Int32.ofInt (-1)) τ2 := by
  rintro rfl b P E A H hw
  obtain ⟨f1, t1, H1⟩ := H.lt g1
  obtain ⟨rfl, -, u⟩ := H1.wd t1 g2 rfl (by rw [q_si_len]; exact hw)
  have e1 := u h3
  refine ⟨f1, ?_⟩
  unfold dAf
  rw [e1]
  exact ⟨rfl, t1⟩
theorem sp_208_ef (a0 : Nat) (a1 : Nat) (a2 : Int32) (a3 : Int32) (σ : zSg) (τ1 : zSg) (τ2 : zSg) (r2 : Int32) (τ4 : zSg) (r4 : Int32) (g1 : p_203 a0 σ τ1) (g2 : p_204 a0 a1 τ1 r2 τ2) (h3 : r2.toInt ≠ (0 : Int)) (g4 : p_207 a0 a2 a3 τ2 r4 τ4) :
    p_208 (a0) (a1) (a2) (a3) σ r4 τ4 := by
  rintro rfl b P E A H hw
  obtain ⟨f1, t1, H1⟩ := H.lt g1
  obtain ⟨rfl, u, -⟩ := H1.wd t1 g2 rfl (by rw [q_si_len]; exact hw)
  have e1 := u h3
  obtain ⟨f2, v⟩ := H1.nb g4
  refine ⟨f1.tr f2, ?_⟩
  unfold dAf
  rw [e1]
  dsimp only
  rcases v with ⟨v, A1, t, rfl, hv, -, -, h9⟩ | ⟨t, h8, h9⟩
  · rw [t]
    exact ⟨rfl, hv, h9⟩
  · rw [t]
    exact ⟨h8, h9⟩
noncomputable def qP_208 : zPp := fun as σ o σ' => match as with
  | [a0, a1, a2, a3] => ∃ r, o = .inl (some (.int r)) ∧ p_208 (q_r a0) (q_r a1) (q_i a2) (q_i a3) σ r σ'
  | _ => True
set_option maxRecDepth 100000 in
theorem sp_208 {sx : zX} (S203 : zEe sx 203 1 qP_203) (S204 : zEe sx 204 2 qP_204) (S207 : zEe sx 207 3 qP_207) : zEe sx 208 4 qP_208 := by
  refine zfle zJ_208 (sps := [(203, 1, qP_203), (204, 2, qP_204), (207, 3, qP_207)]) (fun q hq => by
    simp only [List.mem_cons, List.not_mem_nil, or_false] at hq
    rcases hq with rfl | rfl | rfl
    · exact S203
    · exact S204
    · exact S207) (fun as σ hl => ?_)
  match as, hl with
  | [a0, a1, a2, a3], _ =>
  refine ⟨[], 400, ?_, ?_⟩
  · exact fun q hq => absurd hq List.not_mem_nil
  · refine fun o1 τ1 g1 => ?_
    obtain ⟨rfl, g1⟩ := g1
    refine fun o2 τ2 g2 => ?_
    obtain ⟨r2, rfl, g2⟩ := g2
    refine And.intro (fun h3 => ?_) (fun h3 => ?_)
    · exact ⟨_, rfl, sp_208_et (q_r a0) (q_r a1) (q_i a2) (q_i a3) σ τ1 τ2 r2 g1 g2 (cm0t h3)⟩
    · refine fun o4 τ4 g4 => ?_
      obtain ⟨r4, rfl, g4⟩ := g4
      exact ⟨_, rfl, sp_208_ef (q_r a0) (q_r a1) (q_i a2) (q_i a3) σ τ1 τ2 r2 τ4 r4 g1 g2 (cm0f h3) g4⟩
theorem rD.af {σ τ : zSg} {b : Nat → Int} {P E w : Nat} {A : Nat → Int32} {lo hi r : Int32} {s : List Int} (H : rD σ b P E A) (G : p_208 205 w lo hi σ r τ) (hs : q_si w = s) (hn : s.length ≤ 100) : rDF σ τ ∧ ((∃ v P', dAf b E s lo.toInt hi.toInt (zBl b E P) = .inl (zBl b E P', v) ∧ r = Int32.ofNat v ∧ 0 ≤ r.toInt ∧ rD τ b P' E A) ∨ (∃ F, dAf b E s lo.toInt hi.toInt (zBl b E P) = .inr F ∧ r.toInt < 0 ∧ τ.1 205 12 = .int (Int32.ofNat F))) := by
  obtain ⟨f1, h1⟩ := G rfl b P E A H (by rw [← q_si_len, hs]; exact hn)
  rw [hs] at h1
  refine ⟨f1, ?_⟩
  cases hR : dAf b E s lo.toInt hi.toInt (zBl b E P) with
  | inl q =>
    obtain ⟨A1, v⟩ := q
    rw [hR] at h1
    obtain ⟨rfl, hv, P', rfl, h9⟩ := h1
    exact Or.inl ⟨v, P', rfl, rfl, by rw [Int32.toInt_ofNat_of_lt (by omega)]; omega, h9⟩
  | inr F =>
    rw [hR] at h1
    exact Or.inr ⟨F, rfl, by have := h1.1; omega, h1.2⟩
theorem zJ_211 : zJ3 211 z_m211 z_c211 z_h211 := ⟨rfl, rfl, rfl⟩
noncomputable def p_211 (a : Nat) (at' lo hi : Int32) (σ : zSg) (r : Int32) (σ' : zSg) : Prop := a = 205 → ∀ b P E A K, rD σ b P E A → at' = Int32.ofNat K → K < 88 → rDF σ σ' ∧ ((∃ v A1, tn b E lo.toInt hi.toInt (zBl b E P) = some (A1, v) ∧ r.toInt ≠ 0 ∧ ∃ P', zBl b E P' = A1 ∧ rD σ' b P' E (aU A K (Int32.ofNat v))) ∨ (tn b E lo.toInt hi.toInt (zBl b E P) = none ∧ r.toInt = 0 ∧ σ'.1 205 12 = .int (Int32.ofNat (zBl b E P))))
theorem sp_211_ett (a0 : Nat) (a1 : Int32) (a2 : Int32) (a3 : Int32) (σ : zSg) (τ1 : zSg) (r1 : Int32) (g1 : p_207 a0 a2 a3 σ r1 τ1) (h2 : r1.toInt ≥ (0 : Int)) (h3 : 0 ≤ a1.toInt ∧ a1.toInt < (τ1.2.1 (q_r (τ1.1 a0 1)) : Int)) (h4 : r1.toInt < (0 : Int)) :
    p_211 (a0) (a1) (a2) (a3) σ (Int32.ofInt (0)) (q_w τ1 (q_r (τ1.1 a0 1)) a1.toNatClampNeg (.int r1)) := by
  rintro rfl b P E A K H rfl hK
  have hq := H.q
  have k1 : (Int32.ofNat K).toNatClampNeg = K := o32n (by omega)
  obtain ⟨f1, v⟩ := H.nb g1
  rcases v with ⟨v, A1, t, e1, hv, ev, -, P', hP, H1⟩ | ⟨t, h8, h9⟩
  · first
    | (exfalso; omega)
    | (refine ⟨?_, Or.inl ⟨v, A1, t, by decide, P', hP, ?_⟩⟩
       · simp only [H1.q, k1]
         exact f1.tr (rDF.ww hK)
       · simp only [H1.q, k1, e1]
         exact H1.ww)
  · first
    | (exfalso; omega)
    | (have q9 : q_r (τ1.1 205 1) = 206 := by rw [f1.2 205 1 (by omega) (by omega)]; exact hq
       refine ⟨?_, Or.inr ⟨t, rfl, ?_⟩⟩
       · simp only [q9, k1]
         exact f1.tr (rDF.ww hK)
       · simp only [q9, k1]
         rw [q_w_ne (fun q _ => by omega)]
         exact h9)
theorem sp_211_etf (a0 : Nat) (a1 : Int32) (a2 : Int32) (a3 : Int32) (σ : zSg) (τ1 : zSg) (r1 : Int32) (g1 : p_207 a0 a2 a3 σ r1 τ1) (h2 : r1.toInt ≥ (0 : Int)) (h3 : 0 ≤ a1.toInt ∧ a1.toInt < (τ1.2.1 (q_r (τ1.1 a0 1)) : Int)) (h4 : r1.toInt ≥ (0 : Int)) :
    p_211 (a0) (a1) (a2) (a3) σ (Int32.ofInt (1)) (q_w τ1 (q_r (τ1.1 a0 1)) a1.toNatClampNeg (.int r1)) := by
  rintro rfl b P E A K H rfl hK
  have hq := H.q
  have k1 : (Int32.ofNat K).toNatClampNeg = K := o32n (by omega)
  obtain ⟨f1, v⟩ := H.nb g1
  rcases v with ⟨v, A1, t, e1, hv, ev, -, P', hP, H1⟩ | ⟨t, h8, h9⟩
  · first
    | (exfalso; omega)
    | (refine ⟨?_, Or.inl ⟨v, A1, t, by decide, P', hP, ?_⟩⟩
       · simp only [H1.q, k1]
         exact f1.tr (rDF.ww hK)
       · simp only [H1.q, k1, e1]
         exact H1.ww)
  · first
    | (exfalso; omega)
    | (have q9 : q_r (τ1.1 205 1) = 206 := by rw [f1.2 205 1 (by omega) (by omega)]; exact hq
       refine ⟨?_, Or.inr ⟨t, rfl, ?_⟩⟩
       · simp only [q9, k1]
         exact f1.tr (rDF.ww hK)
       · simp only [q9, k1]
         rw [q_w_ne (fun q _ => by omega)]
         exact h9)
theorem sp_211_eft (a0 : Nat) (a1 : Int32) (a2 : Int32) (a3 : Int32) (σ : zSg) (τ1 : zSg) (r1 : Int32) (g1 : p_207 a0 a2 a3 σ r1 τ1) (h2 : r1.toInt < (0 : Int)) (h5 : 0 ≤ a1.toInt ∧ a1.toInt < (τ1.2.1 (q_r (τ1.1 a0 1)) : Int)) (h6 : 0 ≤ a1.toInt ∧ a1.toInt < (τ1.2.1 (q_r (τ1.1 a0 1)) : Int)) (h7 : r1.toInt < (0 : Int)) :
    p_211 (a0) (a1) (a2) (a3) σ (Int32.ofInt (0)) (q_w τ1 (q_r (τ1.1 a0 1)) a1.toNatClampNeg (.int (q_i (τ1.1 (q_r (τ1.1 a0 1)) a1.toNatClampNeg)))) := by
  rintro rfl b P E A K H rfl hK
  have hq := H.q
  have k1 : (Int32.ofNat K).toNatClampNeg = K := o32n (by omega)
  obtain ⟨f1, v⟩ := H.nb g1
  rcases v with ⟨v, A1, t, e1, hv, ev, -, P', hP, H1⟩ | ⟨t, h8, h9⟩
  · first
    | (exfalso; omega)
    | (refine ⟨?_, Or.inl ⟨v, A1, t, by decide, P', hP, ?_⟩⟩
       · simp only [H1.q, k1]
         exact f1.tr (rDF.ww hK)
       · simp only [H1.q, k1, e1]
         exact H1.ww)
  · first
    | (exfalso; omega)
    | (have q9 : q_r (τ1.1 205 1) = 206 := by rw [f1.2 205 1 (by omega) (by omega)]; exact hq
       refine ⟨?_, Or.inr ⟨t, rfl, ?_⟩⟩
       · simp only [q9, k1]
         exact f1.tr (rDF.ww hK)
       · simp only [q9, k1]
         rw [q_w_ne (fun q _ => by omega)]
         exact h9)
theorem sp_211_eff (a0 : Nat) (a1 : Int32) (a2 : Int32) (a3 : Int32) (σ : zSg) (τ1 : zSg) (r1 : Int32) (g1 : p_207 a0 a2 a3 σ r1 τ1) (h2 : r1.toInt < (0 : Int)) (h5 : 0 ≤ a1.toInt ∧ a1.toInt < (τ1.2.1 (q_r (τ1.1 a0 1)) : Int)) (h6 : 0 ≤ a1.toInt ∧ a1.toInt < (τ1.2.1 (q_r (τ1.1 a0 1)) : Int)) (h7 : r1.toInt ≥ (0 : Int)) :
    p_211 (a0) (a1) (a2) (a3) σ (Int32.ofInt (1)) (q_w τ1 (q_r (τ1.1 a0 1)) a1.toNatClampNeg (.int (q_i (τ1.1 (q_r (τ1.1 a0 1)) a1.toNatClampNeg)))) := by
  rintro rfl b P E A K H rfl hK
  have hq := H.q
  have k1 : (Int32.ofNat K).toNatClampNeg = K := o32n (by omega)
  obtain ⟨f1, v⟩ := H.nb g1
  rcases v with ⟨v, A1, t, e1, hv, ev, -, P', hP, H1⟩ | ⟨t, h8, h9⟩
  · first
    | (exfalso; omega)
    | (refine ⟨?_, Or.inl ⟨v, A1, t, by decide, P', hP, ?_⟩⟩
       · simp only [H1.q, k1]
         exact f1.tr (rDF.ww hK)
       · simp only [H1.q, k1, e1]
         exact H1.ww)
  · first
    | (exfalso; omega)
    | (have q9 : q_r (τ1.1 205 1) = 206 := by rw [f1.2 205 1 (by omega) (by omega)]; exact hq
       refine ⟨?_, Or.inr ⟨t, rfl, ?_⟩⟩
       · simp only [q9, k1]
         exact f1.tr (rDF.ww hK)
       · simp only [q9, k1]
         rw [q_w_ne (fun q _ => by omega)]
         exact h9)
noncomputable def qP_211 : zPp := fun as σ o σ' => match as with
  | [a0, a1, a2, a3] => ∃ r, o = .inl (some (.int r)) ∧ p_211 (q_r a0) (q_i a1) (q_i a2) (q_i a3) σ r σ'
  | _ => True
set_option maxRecDepth 100000 in
theorem sp_211 {sx : zX} (S207 : zEe sx 207 3 qP_207) : zEe sx 211 4 qP_211 := by
  refine zfle zJ_211 (sps := [(207, 3, qP_207)]) (fun q hq => by
    simp only [List.mem_cons, List.not_mem_nil, or_false] at hq
    rcases hq with rfl
    · exact S207) (fun as σ hl => ?_)
  match as, hl with
  | [a0, a1, a2, a3], _ =>
  refine ⟨[], 400, ?_, ?_⟩
  · exact fun q hq => absurd hq List.not_mem_nil
  · refine fun o1 τ1 g1 => ?_
    obtain ⟨r1, rfl, g1⟩ := g1
    refine And.intro (fun h2 => ?_) (fun h2 => ?_)
    · refine fun h3 => ?_
      refine And.intro (fun h4 => ?_) (fun h4 => ?_)
      · exact ⟨_, rfl, sp_211_ett (q_r a0) (q_i a1) (q_i a2) (q_i a3) σ τ1 r1 g1 (cm3t h2) (q_inp h3) (cm2t h4)⟩
      · exact ⟨_, rfl, sp_211_etf (q_r a0) (q_i a1) (q_i a2) (q_i a3) σ τ1 r1 g1 (cm3t h2) (q_inp h3) (cm2f h4)⟩
    · refine fun h5 => ?_
      refine fun h6 => ?_
      refine And.intro (fun h7 => ?_) (fun h7 => ?_)
      · exact ⟨_, rfl, sp_211_eft (q_r a0) (q_i a1) (q_i a2) (q_i a3) σ τ1 r1 g1 (cm3f h2) (q_inp h5) (q_inp h6) (cm2t h7)⟩
      · exact ⟨_, rfl, sp_211_eff (q_r a0) (q_i a1) (q_i a2) (q_i a3) σ τ1 r1 g1 (cm3f h2) (q_inp h5) (q_inp h6) (cm2f h7)⟩
noncomputable def p_212 (a : Nat) (σ : zSg) (r : Int32) (σ' : zSg) : Prop := a = 205 → ∀ b P E A, rD σ b P E A → rDF σ σ' ∧ rOB σ' b E A r (dH b E (zBl b E P))
noncomputable def i_212 (a : Nat) (σ : zSg) (l1 l2 l3 l4 : Int32) (τ : zSg) : Prop := a = 205 → ∀ b P E A, rD σ b P E A → rDF σ τ ∧ ∃ f t n P', f < 24 ∧ t < 24 ∧ l2 = Int32.ofNat t ∧ n ≤ (t + 24 - f) % 24 ∧ l4 = Int32.ofNat ((f + n) % 24) ∧ l3 = (Int32.ofInt 1 <<< (Int32.ofNat t &&& 31)) ||| hBn f n ∧ dH b E (zBl b E P) = .inl (zBl b E P', hB f t) ∧ rD τ b P' E A
theorem sp_212_ett (a0 : Nat) (σ : zSg) (τ1 : zSg) (r1 : Int32) (τ3 : zSg) (r3 : Int32) (g1 : p_207 a0 (Int32.ofInt (0)) (Int32.ofInt (23)) σ r1 τ1) (h2 : r1.toInt ≥ (0 : Int)) (g3 : p_208 a0 (zB + 42) (Int32.ofInt (0)) (Int32.ofInt (23)) τ1 r3 τ3) (h4 : r3.toInt ≥ (0 : Int)) :
    i_212 a0 σ r1 r3 ((Int32.ofInt (1)) <<< (r3 &&& 31)) r1 τ3 := by
  rintro rfl b P E A H
  obtain ⟨f1, v⟩ := H.nb g1
  obtain ⟨v, A1, t, rfl, -, ev, hl, P1, rfl, H1⟩ | ⟨t, h8, h9⟩ := v
  · rw [show (Int32.ofInt 0).toInt = 0 from rfl, show (Int32.ofInt 23).toInt = 23 from rfl] at t
    rw [show (Int32.ofInt 23).toInt = 23 from rfl] at hl
    obtain ⟨f2, u⟩ := H1.af g3 qsi_42 (by decide)
    rw [show (Int32.ofInt 0).toInt = 0 from rfl, show (Int32.ofInt 23).toInt = 23 from rfl] at u
    rcases u with ⟨v2, P2, h2, rfl, -, H2⟩ | ⟨F, -, h3, -⟩
    · unfold dAf at h2
      cases h5 : tw b E wTo (zBl b E P1) with
      | none => rw [h5] at h2; cases h2
      | some A2 =>
        rw [h5] at h2
        dsimp only at h2
        cases h6 : tn b E 0 23 A2 with
        | none => rw [h6] at h2; cases h2
        | some q =>
          rw [h6] at h2
          obtain ⟨A3, t9⟩ := q
          have h2' := Prod.mk.inj (Sum.inl.inj h2)
          obtain ⟨rfl, rfl⟩ := h2'
          have h7 : t9 < 24 := by have := tn_rg h6; omega
          refine ⟨f1.tr f2, v, t9, 0, P2, by omega, h7, rfl, by omega, ?_, ?_, ?_, H2⟩
          · rw [show (v + 0) % 24 = v by omega]
          · rw [show hBn v 0 = 0 from rfl, Int32.or_zero]
          · unfold dH
            rw [t]
            dsimp only
            rw [h5]
            dsimp only
            rw [h6]
    · omega
  · omega
theorem sp_212_etf (a0 : Nat) (σ : zSg) (τ1 : zSg) (r1 : Int32) (τ3 : zSg) (r3 : Int32) (g1 : p_207 a0 (Int32.ofInt (0)) (Int32.ofInt (23)) σ r1 τ1) (h2 : r1.toInt ≥ (0 : Int)) (g3 : p_208 a0 (zB + 42) (Int32.ofInt (0)) (Int32.ofInt (23)) τ1 r3 τ3) (h4 : r3.toInt < (0 : Int)) :
    p_212 (a0) σ (Int32.ofInt (-1)) τ3 := by
  rintro rfl b P E A H
  obtain ⟨f1, v⟩ := H.nb g1
  unfold dH
  obtain ⟨v, A1, t, rfl, -, ev, -, P1, rfl, H1⟩ | ⟨t, h8, h9⟩ := v
  · rw [show (Int32.ofInt 0).toInt = 0 from rfl, show (Int32.ofInt 23).toInt = 23 from rfl] at t
    rw [t]
    dsimp only
    obtain ⟨f2, u⟩ := H1.af g3 qsi_42 (by decide)
    refine ⟨f1.tr f2, ?_⟩
    rw [show (Int32.ofInt 0).toInt = 0 from rfl, show (Int32.ofInt 23).toInt = 23 from rfl] at u
    rcases u with ⟨v2, P2, -, -, h2, -⟩ | ⟨F, h2, h3, h4⟩
    · omega
    · unfold dAf at h2
      cases h5 : tw b E wTo (zBl b E P1) with
      | none => rw [h5] at h2; cases h2; exact ⟨rfl, h4⟩
      | some A2 =>
        rw [h5] at h2
        dsimp only at h2 ⊢
        cases h6 : tn b E 0 23 A2 with
        | none => rw [h6] at h2; cases h2; exact ⟨rfl, h4⟩
        | some q => rw [h6] at h2; cases h2
  · omega
theorem sp_212_ef (a0 : Nat) (σ : zSg) (τ1 : zSg) (r1 : Int32) (g1 : p_207 a0 (Int32.ofInt (0)) (Int32.ofInt (23)) σ r1 τ1) (h2 : r1.toInt < (0 : Int)) :
    p_212 (a0) σ (Int32.ofInt (-1)) τ1 := by
  rintro rfl b P E A H
  obtain ⟨f1, v⟩ := H.nb g1
  unfold dH
  obtain ⟨v, A1, t, rfl, -, ev, -, -⟩ | ⟨t, h8, h9⟩ := v
  · omega
  · rw [show (Int32.ofInt 0).toInt = 0 from rfl, show (Int32.ofInt 23).toInt = 23 from rfl] at t
    rw [t]
    exact ⟨f1, rfl, h9⟩
theorem sp_212_c25_t (a0 : Nat) (σ : zSg) (l1 : Int32) (l2 : Int32) (l3 : Int32) (l4 : Int32) (τ : zSg) (hI : i_212 a0 σ l1 l2 l3 l4 τ) (h6 : l4.toInt = l2.toInt) :
    p_212 (a0) σ l3 τ := by
  intro ha b P E A H
  obtain ⟨f1, f, t, n, P', hf, ht, rfl, hn, rfl, rfl, hd, H1⟩ := hI ha b P E A H
  rw [o32 (by omega), o32 (by omega)] at h6
  have he : n = (t + 24 - f) % 24 := by omega
  have hb : (Int32.ofInt 1 <<< (Int32.ofNat t &&& 31)) ||| hBn f n = hB f t := by
    unfold hB
    rw [← he, hBn_s, Int32.or_comm, show (f + n) % 24 = t by omega]
  rw [hb]
  refine ⟨f1, ?_⟩
  rw [hd]
  exact ⟨rfl, hB_ge hf ht, P', rfl, H1⟩
theorem sp_212_c25_f (a0 : Nat) (σ : zSg) (l1 : Int32) (l2 : Int32) (l3 : Int32) (l4 : Int32) (τ : zSg) (τ7 : zSg) (r7 : Int32) (hI : i_212 a0 σ l1 l2 l3 l4 τ) (h6 : l4.toInt ≠ l2.toInt) (g7 : p_187 l4 τ r7 τ7) :
    i_212 a0 σ l1 l2 (l3 ||| ((Int32.ofInt (1)) <<< (l4 &&& 31))) r7 τ7 := by
  intro ha b P E A H
  obtain ⟨f1, f, t, n, P', hf, ht, rfl, hn, rfl, rfl, hd, H1⟩ := hI ha b P E A H
  obtain ⟨rfl, h2⟩ := g7
  have h3 := h2 _ rfl (by omega)
  rw [o32 (by omega), o32 (by omega)] at h6
  have hne : n ≠ (t + 24 - f) % 24 := by
    intro e
    apply h6
    rw [e]
    omega
  refine ⟨f1, f, t, n + 1, P', hf, ht, rfl, by omega, ?_, ?_, hd, H1⟩
  · rw [h3]
    exact congrArg Int32.ofNat (by omega)
  · rw [hBn_s, Int32.or_assoc]
noncomputable def qP_212 : zPp := fun as σ o σ' => match as with
  | [a0] => ∃ r, o = .inl (some (.int r)) ∧ p_212 (q_r a0) σ r σ'
  | _ => True
set_option maxRecDepth 100000 in
theorem sp_212 {sx : zX} (S207 : zEe sx 207 3 qP_207) (S208 : zEe sx 208 4 qP_208) (S187 : zEe sx 187 1 qP_187) : zEe sx 212 1 qP_212 := by
  refine zfle zJ_212 (sps := [(207, 3, qP_207), (208, 4, qP_208), (187, 1, qP_187)]) (fun q hq => by
    simp only [List.mem_cons, List.not_mem_nil, or_false] at hq
    rcases hq with rfl | rfl | rfl
    · exact S207
    · exact S208
    · exact S187) (fun as σ hl => ?_)
  match as, hl with
  | [a0], _ =>
  refine ⟨[(25, fun lo st τ => st = [] ∧ i_212 (q_r a0) σ (q_i (lo 1)) (q_i (lo 2)) (q_i (lo 3)) (q_i (lo 4)) τ)], 400, ?_, ?_⟩
  · intro q hq
    simp only [List.mem_cons, List.not_mem_nil, or_false] at hq
    rcases hq with rfl
    · rintro lo st τ ⟨rfl, hI⟩
      refine ⟨400, ?_⟩
      refine And.intro (fun h6 => ?_) (fun h6 => ?_)
      · exact ⟨_, rfl, sp_212_c25_t (q_r a0) σ (q_i (lo 1)) (q_i (lo 2)) (q_i (lo 3)) (q_i (lo 4)) τ hI (cm0t h6)⟩
      · refine fun o7 τ7 g7 => ?_
        obtain ⟨r7, rfl, g7⟩ := g7
        exact ⟨rfl, sp_212_c25_f (q_r a0) σ (q_i (lo 1)) (q_i (lo 2)) (q_i (lo 3)) (q_i (lo 4)) τ τ7 r7 hI (cm0f h6) g7⟩
  · refine fun o1 τ1 g1 => ?_
    obtain ⟨r1, rfl, g1⟩ := g1
    refine And.intro (fun h2 => ?_) (fun h2 => ?_)
    · refine fun o3 τ3 g3 => ?_
      obtain ⟨r3, rfl, g3⟩ := g3
      refine And.intro (fun h4 => ?_) (fun h4 => ?_)
      · exact ⟨rfl, sp_212_ett (q_r a0) σ τ1 r1 τ3 r3 g1 (cm3t h2) g3 (cm3t h4)⟩
      · exact ⟨_, rfl, sp_212_etf (q_r a0) σ τ1 r1 τ3 r3 g1 (cm3t h2) g3 (cm3f h4)⟩
    · refine And.intro (fun h5 => absurd (show z_cmp 3 (Int32.ofInt (-1)) 0 = true from h5) (by decide)) (fun _ => ?_)
      exact ⟨_, rfl, sp_212_ef (q_r a0) σ τ1 r1 g1 (cm3f h2)⟩
noncomputable def gN (A : Nat → Int32) (q f : Int32) (n : Nat) : Nat → Int32 := fun k => if k < 16 + n then dG A q f k else A k
theorem gN_s {A : Nat → Int32} {q f : Int32} {n : Nat} {v : Int32} (hn : n < 24) (hv : v = if btb q (Int32.ofNat n) = true then f else A (16 + n)) : ∀ k, aU (gN A q f n) (16 + n) v k = gN A q f (n + 1) k := by
  intro k
  unfold aU gN
  by_cases h : k = 16 + n
  · rw [if_pos h, if_pos (by omega), h, hv]
    unfold dG
    rw [show 16 + n - 16 = n by omega]
    by_cases h1 : btb q (Int32.ofNat n) = true
    · rw [if_pos h1, if_pos ⟨by omega, by omega, h1⟩]
    · rw [if_neg h1, if_neg (fun q => h1 q.2.2)]
  · rw [if_neg h]
    by_cases h1 : k < 16 + n
    · rw [if_pos h1, if_pos (by omega)]
    · rw [if_neg h1, if_neg (by omega)]
theorem gN_0 {A : Nat → Int32} {q f : Int32} : ∀ k, A k = gN A q f 0 k := by
  intro k
  unfold gN dG
  by_cases h : k < 16 + 0
  · rw [if_pos h, if_neg (by omega)]
  · rw [if_neg h]
theorem gN_24 {A : Nat → Int32} {q f : Int32} : ∀ k, gN A q f 24 k = dG A q f k := by
  intro k
  unfold gN
  by_cases h : k < 16 + 24
  · rw [if_pos h]
  · rw [if_neg h]
    unfold dG
    rw [if_neg (by omega)]
noncomputable def rGF (σ σ' : zSg) : Prop := σ'.2 = σ.2 ∧ ∀ c k, ¬ (c = 206 ∧ 16 ≤ k ∧ k < 40) → σ'.1 c k = σ.1 c k
theorem rGF.df {σ σ' : zSg} (h : rGF σ σ') : rDF σ σ' := ⟨h.1, fun c k _ q => h.2 c k (fun e => q ⟨e.1, by omega⟩)⟩
theorem zJ_213 : zJ3 213 z_m213 z_c213 z_h213 := ⟨rfl, rfl, rfl⟩
noncomputable def p_213 (a : Nat) (q f : Int32) (σ σ' : zSg) : Prop := a = 205 → ∀ b P E A, rD σ b P E A → rGF σ σ' ∧ rD σ' b P E (dG A q f)
noncomputable def i_213 (a : Nat) (q f : Int32) (σ : zSg) (l0 : Nat) (l1 l2 l3 : Int32) (τ : zSg) : Prop := l0 = a ∧ l1 = q ∧ l2 = f ∧ (a = 205 → ∀ b P E A, rD σ b P E A → ∃ n, n ≤ 24 ∧ l3 = Int32.ofNat n ∧ rGF σ τ ∧ rD τ b P E (gN A q f n))
theorem sp_213_e (a0 : Nat) (a1 : Int32) (a2 : Int32) (σ : zSg)  :
    i_213 a0 a1 a2 σ a0 a1 a2 (Int32.ofInt (0)) σ := by
  exact ⟨rfl, rfl, rfl, fun ha b P E A H => ⟨0, by omega, rfl, ⟨rfl, fun _ _ _ => rfl⟩, H.cg (fun k _ => gN_0 k)⟩⟩
theorem sp_213_c2_t (a0 : Nat) (a1 : Int32) (a2 : Int32) (σ : zSg) (l0 : Nat) (l1 : Int32) (l2 : Int32) (l3 : Int32) (τ : zSg) (hI : i_213 a0 a1 a2 σ l0 l1 l2 l3 τ) (h1 : l3.toInt ≥ (24 : Int)) :
    p_213 (a0) (a1) (a2) σ τ := by
  obtain ⟨rfl, rfl, rfl, hI⟩ := hI
  intro ha b P E A H
  obtain ⟨n, hn, rfl, f1, H1⟩ := hI ha b P E A H
  rw [o32 (by omega)] at h1
  have : n = 24 := by omega
  subst this
  exact ⟨f1, H1.cg (fun k _ => gN_24 k)⟩
theorem sp_213_c2_ft (a0 : Nat) (a1 : Int32) (a2 : Int32) (σ : zSg) (l0 : Nat) (l1 : Int32) (l2 : Int32) (l3 : Int32) (τ : zSg) (τ2 : zSg) (r2 : Int32) (τ4 : zSg) (r4 : Int32) (hI : i_213 a0 a1 a2 σ l0 l1 l2 l3 τ) (h1 : l3.toInt < (24 : Int)) (g2 : p_178 l1 l3 τ r2 τ2) (h3 : r2.toInt = (0 : Int)) (g4 : p_186 l0 l3 τ2 r4 τ4) (h5 : 0 ≤ ((Int32.ofInt (16)) + l3).toInt ∧ ((Int32.ofInt (16)) + l3).toInt < (τ4.2.1 (q_r (τ.1 l0 1)) : Int)) :
    i_213 a0 a1 a2 σ l0 l1 l2 (l3 + Int32.ofInt (1)) (q_w τ4 (q_r (τ.1 l0 1)) ((Int32.ofInt (16)) + l3).toNatClampNeg (.int r4)) := by
  obtain ⟨rfl, rfl, rfl, hI⟩ := hI
  refine ⟨rfl, rfl, rfl, ?_⟩
  rintro rfl b P E A H
  obtain ⟨n, hn, rfl, f1, H1⟩ := hI rfl b P E A H
  rw [o32 (by omega)] at h1
  have hn' : n < 24 := by omega
  have hx := h16 hn'
  have hq := H1.q
  obtain ⟨rfl, e1⟩ := g2
  obtain ⟨rfl, e2⟩ := g4
  have e2 := e2 rfl _ n H1.w rfl hn'
  have h9 : ¬ btb l1 (Int32.ofNat n) = true := by
    intro h
    rw [if_pos h] at e1
    rw [e1] at h3
    exact absurd h3 (by decide)
  refine ⟨n + 1, by omega, o32i (by omega), ?_, ?_⟩
  · simp only [hq, hx]
    exact ⟨f1.1, fun c k q => by rw [q_w_ne (fun e1 e2 => q ⟨e1, by omega⟩)]; exact f1.2 c k q⟩
  · simp only [hq, hx]
    refine H1.ww.cg (fun k _ => gN_s hn' ?_ k)
    rw [if_neg h9, e2]
    unfold gN
    rw [if_neg (by omega)]
theorem sp_213_c2_ff (a0 : Nat) (a1 : Int32) (a2 : Int32) (σ : zSg) (l0 : Nat) (l1 : Int32) (l2 : Int32) (l3 : Int32) (τ : zSg) (τ2 : zSg) (r2 : Int32) (hI : i_213 a0 a1 a2 σ l0 l1 l2 l3 τ) (h1 : l3.toInt < (24 : Int)) (g2 : p_178 l1 l3 τ r2 τ2) (h3 : r2.toInt ≠ (0 : Int)) (h6 : 0 ≤ ((Int32.ofInt (16)) + l3).toInt ∧ ((Int32.ofInt (16)) + l3).toInt < (τ2.2.1 (q_r (τ.1 l0 1)) : Int)) :
    i_213 a0 a1 a2 σ l0 l1 l2 (l3 + Int32.ofInt (1)) (q_w τ2 (q_r (τ.1 l0 1)) ((Int32.ofInt (16)) + l3).toNatClampNeg (.int l2)) := by
  obtain ⟨rfl, rfl, rfl, hI⟩ := hI
  refine ⟨rfl, rfl, rfl, ?_⟩
  rintro rfl b P E A H
  obtain ⟨n, hn, rfl, f1, H1⟩ := hI rfl b P E A H
  rw [o32 (by omega)] at h1
  have hn' : n < 24 := by omega
  have hx := h16 hn'
  have hq := H1.q
  obtain ⟨rfl, e1⟩ := g2
  have h9 : btb l1 (Int32.ofNat n) = true := by
    by_cases h : btb l1 (Int32.ofNat n) = true
    · exact h
    · rw [if_neg h] at e1
      rw [e1] at h3
      exact absurd rfl h3
  refine ⟨n + 1, by omega, o32i (by omega), ?_, ?_⟩
  · simp only [hq, hx]
    exact ⟨f1.1, fun c k q => by rw [q_w_ne (fun e1 e2 => q ⟨e1, by omega⟩)]; exact f1.2 c k q⟩
  · simp only [hq, hx]
    exact H1.ww.cg (fun k _ => gN_s hn' (by rw [if_pos h9]) k)
noncomputable def qP_213 : zPp := fun as σ o σ' => match as with
  | [a0, a1, a2] => o = .inl none ∧ p_213 (q_r a0) (q_i a1) (q_i a2) σ σ'
  | _ => True
set_option maxRecDepth 100000 in
theorem sp_213 {sx : zX} (S178 : zEe sx 178 2 qP_178) (S186 : zEe sx 186 2 qP_186) : zEe sx 213 3 qP_213 := by
  refine zfle zJ_213 (sps := [(178, 2, qP_178), (186, 2, qP_186)]) (fun q hq => by
    simp only [List.mem_cons, List.not_mem_nil, or_false] at hq
    rcases hq with rfl | rfl
    · exact S178
    · exact S186) (fun as σ hl => ?_)
  match as, hl with
  | [a0, a1, a2], _ =>
  refine ⟨[(2, fun lo st τ => st = [] ∧ i_213 (q_r a0) (q_i a1) (q_i a2) σ (q_r (lo 0)) (q_i (lo 1)) (q_i (lo 2)) (q_i (lo 3)) τ)], 400, ?_, ?_⟩
  · intro q hq
    simp only [List.mem_cons, List.not_mem_nil, or_false] at hq
    rcases hq with rfl
    · rintro lo st τ ⟨rfl, hI⟩
      refine ⟨400, ?_⟩
      refine And.intro (fun h1 => ?_) (fun h1 => ?_)
      · exact ⟨rfl, sp_213_c2_t (q_r a0) (q_i a1) (q_i a2) σ (q_r (lo 0)) (q_i (lo 1)) (q_i (lo 2)) (q_i (lo 3)) τ hI (cm3t h1)⟩
      · refine fun o2 τ2 g2 => ?_
        obtain ⟨r2, rfl, g2⟩ := g2
        refine And.intro (fun h3 => ?_) (fun h3 => ?_)
        · refine fun o4 τ4 g4 => ?_
          obtain ⟨r4, rfl, g4⟩ := g4
          refine fun h5 => ?_
          exact ⟨rfl, sp_213_c2_ft (q_r a0) (q_i a1) (q_i a2) σ (q_r (lo 0)) (q_i (lo 1)) (q_i (lo 2)) (q_i (lo 3)) τ τ2 r2 τ4 r4 hI (cm3f h1) g2 (cm0t h3) g4 (q_inp h5)⟩
        · refine fun h6 => ?_
          exact ⟨rfl, sp_213_c2_ff (q_r a0) (q_i a1) (q_i a2) σ (q_r (lo 0)) (q_i (lo 1)) (q_i (lo 2)) (q_i (lo 3)) τ τ2 r2 hI (cm3f h1) g2 (cm0f h3) (q_inp h6)⟩
  · exact ⟨rfl, sp_213_e (q_r a0) (q_i a1) (q_i a2) σ ⟩
theorem zJ_215 : zJ3 215 z_m215 z_c215 z_h215 := ⟨rfl, rfl, rfl⟩
noncomputable def p_215 (a : Nat) (σ : zSg) (r : Int32) (σ' : zSg) : Prop := a = 205 → ∀ b P E A nf, rD σ b P E A → A 0 = Int32.ofNat nf → nf ≤ 6 → rDF σ σ' ∧ ((∃ v A1, tn b E 0 ((nf : Int) - 1) (zBl b E P) = some (A1, v) ∧ r = Int32.ofNat v ∧ 0 ≤ r.toInt ∧ v < nf ∧ ∃ P', zBl b E P' = A1 ∧ rD σ' b P' E A) ∨ (tn b E 0 ((nf : Int) - 1) (zBl b E P) = none ∧ r.toInt < 0 ∧ σ'.1 205 12 = .int (Int32.ofNat (zBl b E P))))
theorem sp_215_e (a0 : Nat) (σ : zSg) (τ1 : zSg) (r1 : Int32) (τ2 : zSg) (r2 : Int32) (g1 : p_184 a0 σ r1 τ1) (g2 : p_207 a0 (Int32.ofInt (0)) (r1 - (Int32.ofInt (1))) τ1 r2 τ2) :
    p_215 (a0) σ r2 τ2 := by
  rintro rfl b P E A nf H h0 hn
  obtain ⟨rfl, e1⟩ := g1
  have e1 := e1 rfl A H.w
  have e2 : (r1 - Int32.ofInt 1).toInt = (nf : Int) - 1 := by
    rw [e1, h0]
    exact zI_sub (o32 (by omega)) (zI_c (by omega) (by omega)) (by omega) (by omega)
  obtain ⟨f1, v⟩ := H.nb g2
  rw [e2, show (Int32.ofInt 0).toInt = 0 from rfl] at v
  refine ⟨f1, ?_⟩
  rcases v with ⟨v, A1, t, h1, h2, h3, h4, h5⟩ | ⟨t, h8, h9⟩
  · exact Or.inl ⟨v, A1, t, h1, by omega, by omega, h5⟩
  · exact Or.inr ⟨t, by omega, h9⟩
noncomputable def qP_215 : zPp := fun as σ o σ' => match as with
  | [a0] => ∃ r, o = .inl (some (.int r)) ∧ p_215 (q_r a0) σ r σ'
  | _ => True
set_option maxRecDepth 100000 in
theorem sp_215 {sx : zX} (S184 : zEe sx 184 1 qP_184) (S207 : zEe sx 207 3 qP_207) : zEe sx 215 1 qP_215 := by
  refine zfle zJ_215 (sps := [(184, 1, qP_184), (207, 3, qP_207)]) (fun q hq => by
    simp only [List.mem_cons, List.not_mem_nil, or_false] at hq
    rcases hq with rfl | rfl
    · exact S184
    · exact S207) (fun as σ hl => ?_)
  match as, hl with
  | [a0], _ =>
  refine ⟨[], 400, ?_, ?_⟩
  · exact fun q hq => absurd hq List.not_mem_nil
  · refine fun o1 τ1 g1 => ?_
    obtain ⟨r1, rfl, g1⟩ := g1
    refine fun o2 τ2 g2 => ?_
    obtain ⟨r2, rfl, g2⟩ := g2
    exact ⟨_, rfl, sp_215_e (q_r a0) σ τ1 r1 τ2 r2 g1 g2⟩
theorem rD.tf {σ τ : zSg} {b : Nat → Int} {P E : Nat} {A : Nat → Int32} {r : Int32} (H : rD σ b P E A) (G : p_212 205 σ r τ) : rDF σ τ ∧ ((∃ P', dH b E (zBl b E P) = .inl (zBl b E P', r) ∧ 0 ≤ r.toInt ∧ rD τ b P' E A) ∨ (∃ F, dH b E (zBl b E P) = .inr F ∧ r.toInt < 0 ∧ τ.1 205 12 = .int (Int32.ofNat F))) := by
  obtain ⟨f1, h1⟩ := G rfl b P E A H
  refine ⟨f1, ?_⟩
  cases hR : dH b E (zBl b E P) with
  | inl q =>
    obtain ⟨A1, v⟩ := q
    rw [hR] at h1
    obtain ⟨rfl, hv, P', rfl, h9⟩ := h1
    exact Or.inl ⟨P', rfl, hv, h9⟩
  | inr F =>
    rw [hR] at h1
    exact Or.inr ⟨F, rfl, by have := h1.1; omega, h1.2⟩
/-- as a line begins: its place, the place behind its first word -/
noncomputable def rL (σ : zSg) (b : Nat → Int) (B P E nf nt : Nat) (A : Nat → Int32) : Prop := rD σ b P E A ∧ σ.1 205 12 = .int (Int32.ofNat B) ∧ A 0 = Int32.ofNat nf ∧ nf ≤ 6 ∧ A 1 = Int32.ofNat nt ∧ nt ≤ 8
theorem zJ_216 : zJ3 216 z_m216 z_c216 z_h216 := ⟨rfl, rfl, rfl⟩
noncomputable def p_216 (a : Nat) (σ : zSg) (r : Int32) (σ' : zSg) : Prop := a = 205 → ∀ b B P E nf nt A, rL σ b B P E nf nt A → rDF σ σ' ∧ rOL σ' b E nf nt A r (dLk b E nf nt B (zBl b E P) 1)
theorem sp_216_ettt (a0 : Nat) (σ : zSg) (τ1 : zSg) (r1 : Int32) (τ3 : zSg) (r3 : Int32) (g1 : p_215 a0 σ r1 τ1) (h2 : r1.toInt ≥ (0 : Int)) (g3 : p_212 a0 τ1 r3 τ3) (h4 : r3.toInt < (0 : Int)) (h5 : r3.toInt < (0 : Int)) :
    p_216 (a0) σ (Int32.ofInt (0)) τ3 := by
  rintro rfl b B P E nf nt A ⟨H, hB, h0, hnf, h1, hnt⟩
  obtain ⟨f1, u⟩ := g1 rfl b P E A nf H h0 hnf
  unfold dLk dHf
  rcases u with ⟨v, A1, t, rfl, h9, hv, P1, rfl, H1⟩ | ⟨t, h8, h9⟩
  · rw [t]
    dsimp only
    obtain ⟨f2, w⟩ := H1.tf g3
    rcases w with ⟨P2, e2, h2, H2⟩ | ⟨F, e2, h2, h3⟩
    · first
      | (exfalso; omega)
      | (rw [e2]
         obtain ⟨f3, H3⟩ := C3 rfl b P2 E A H2
         exact ⟨(f1.tr f2).tr f3.df, by decide, P2, rfl, H3⟩)
    · first
      | (exfalso; omega)
      | (rw [e2]; exact ⟨f1.tr f2, rfl, h3⟩)
  · exfalso; omega
theorem sp_216_ettf (a0 : Nat) (σ : zSg) (τ1 : zSg) (r1 : Int32) (τ3 : zSg) (r3 : Int32) (g1 : p_215 a0 σ r1 τ1) (h2 : r1.toInt ≥ (0 : Int)) (g3 : p_212 a0 τ1 r3 τ3) (h4 : r3.toInt < (0 : Int)) (h5 : r3.toInt ≥ (0 : Int)) :
    p_216 (a0) σ (Int32.ofInt (1)) τ3 := by
  rintro rfl b B P E nf nt A ⟨H, hB, h0, hnf, h1, hnt⟩
  obtain ⟨f1, u⟩ := g1 rfl b P E A nf H h0 hnf
  unfold dLk dHf
  rcases u with ⟨v, A1, t, rfl, h9, hv, P1, rfl, H1⟩ | ⟨t, h8, h9⟩
  · rw [t]
    dsimp only
    obtain ⟨f2, w⟩ := H1.tf g3
    rcases w with ⟨P2, e2, h2, H2⟩ | ⟨F, e2, h2, h3⟩
    · first
      | (exfalso; omega)
      | (rw [e2]
         obtain ⟨f3, H3⟩ := C3 rfl b P2 E A H2
         exact ⟨(f1.tr f2).tr f3.df, by decide, P2, rfl, H3⟩)
    · first
      | (exfalso; omega)
      | (rw [e2]; exact ⟨f1.tr f2, rfl, h3⟩)
  · exfalso; omega
theorem sp_216_etft (a0 : Nat) (σ : zSg) (τ1 : zSg) (r1 : Int32) (τ3 : zSg) (r3 : Int32) (τ6 : zSg) (g1 : p_215 a0 σ r1 τ1) (h2 : r1.toInt ≥ (0 : Int)) (g3 : p_212 a0 τ1 r3 τ3) (h4 : r3.toInt ≥ (0 : Int)) (g6 : p_213 a0 r3 r1 τ3 τ6) (h7 : r3.toInt < (0 : Int)) :
    p_216 (a0) σ (Int32.ofInt (0)) τ6 := by
  rintro rfl b B P E nf nt A ⟨H, hB, h0, hnf, h1, hnt⟩
  obtain ⟨f1, u⟩ := g1 rfl b P E A nf H h0 hnf
  unfold dLk dHf
  rcases u with ⟨v, A1, t, rfl, h9, hv, P1, rfl, H1⟩ | ⟨t, h8, h9⟩
  · rw [t]
    dsimp only
    obtain ⟨f2, w⟩ := H1.tf g3
    rcases w with ⟨P2, e2, h2, H2⟩ | ⟨F, e2, h2, h3⟩
    · first
      | (exfalso; omega)
      | (rw [e2]
         obtain ⟨f3, H3⟩ := g6 rfl b P2 E A H2
         exact ⟨(f1.tr f2).tr f3.df, by decide, P2, rfl, H3⟩)
    · first
      | (exfalso; omega)
      | (rw [e2]; exact ⟨f1.tr f2, rfl, h3⟩)
  · exfalso; omega
theorem sp_216_etff (a0 : Nat) (σ : zSg) (τ1 : zSg) (r1 : Int32) (τ3 : zSg) (r3 : Int32) (τ6 : zSg) (g1 : p_215 a0 σ r1 τ1) (h2 : r1.toInt ≥ (0 : Int)) (g3 : p_212 a0 τ1 r3 τ3) (h4 : r3.toInt ≥ (0 : Int)) (g6 : p_213 a0 r3 r1 τ3 τ6) (h7 : r3.toInt ≥ (0 : Int)) :
    p_216 (a0) σ (Int32.ofInt (1)) τ6 := by
  rintro rfl b B P E nf nt A ⟨H, hB, h0, hnf, h1, hnt⟩
  obtain ⟨f1, u⟩ := g1 rfl b P E A nf H h0 hnf
  unfold dLk dHf
  rcases u with ⟨v, A1, t, rfl, h9, hv, P1, rfl, H1⟩ | ⟨t, h8, h9⟩
  · rw [t]
    dsimp only
    obtain ⟨f2, w⟩ := H1.tf g3
    rcases w with ⟨P2, e2, h2, H2⟩ | ⟨F, e2, h2, h3⟩
    · first
      | (exfalso; omega)
      | (rw [e2]
         obtain ⟨f3, H3⟩ := g6 rfl b P2 E A H2
         exact ⟨(f1.tr f2).tr f3.df, by decide, P2, rfl, H3⟩)
    · first
      | (exfalso; omega)
      | (rw [e2]; exact ⟨f1.tr f2, rfl, h3⟩)
  · exfalso; omega
theorem sp_216_ef (a0 : Nat) (σ : zSg) (τ1 : zSg) (r1 : Int32) (g1 : p_215 a0 σ r1 τ1) (h2 : r1.toInt < (0 : Int)) :
    p_216 (a0) σ (Int32.ofInt (0)) τ1 := by
  rintro rfl b B P E nf nt A ⟨H, hB, h0, hnf, h1, hnt⟩
  obtain ⟨f1, u⟩ := g1 rfl b P E A nf H h0 hnf
  unfold dLk dHf
  rcases u with ⟨v, A1, t, -, h9, -⟩ | ⟨t, h8, h9⟩
  · exfalso; omega
  · first
    | (exfalso; omega)
    | (rw [t]; exact ⟨f1, rfl, h9⟩)
noncomputable def qP_216 : zPp := fun as σ o σ' => match as with
  | [a0] => ∃ r, o = .inl (some (.int r)) ∧ p_216 (q_r a0) σ r σ'
  | _ => True
set_option maxRecDepth 100000 in
theorem sp_216 {sx : zX} (S215 : zEe sx 215 1 qP_215) (S212 : zEe sx 212 1 qP_212) (S213 : zEe sx 213 3 qP_213) : zEe sx 216 1 qP_216 := by
  refine zfle zJ_216 (sps := [(215, 1, qP_215), (212, 1, qP_212), (213, 3, qP_213)]) (fun q hq => by
    simp only [List.mem_cons, List.not_mem_nil, or_false] at hq
    rcases hq with rfl | rfl | rfl
    · exact S215
    · exact S212
    · exact S213) (fun as σ hl => ?_)
  match as, hl with
  | [a0], _ =>
  refine ⟨[], 400, ?_, ?_⟩
  · exact fun q hq => absurd hq List.not_mem_nil
  · refine fun o1 τ1 g1 => ?_
    obtain ⟨r1, rfl, g1⟩ := g1
    refine And.intro (fun h2 => ?_) (fun h2 => ?_)
    · refine fun o3 τ3 g3 => ?_
      obtain ⟨r3, rfl, g3⟩ := g3
      refine And.intro (fun h4 => ?_) (fun h4 => ?_)
      · refine And.intro (fun h5 => ?_) (fun h5 => ?_)
        · exact ⟨_, rfl, sp_216_ettt (q_r a0) σ τ1 r1 τ3 r3 g1 (cm3t h2) g3 (cm2t h4) (cm2t h5)⟩
        · exact ⟨_, rfl, sp_216_ettf (q_r a0) σ τ1 r1 τ3 r3 g1 (cm3t h2) g3 (cm2t h4) (cm2f h5)⟩
      · refine fun o6 τ6 g6 => ?_
        obtain ⟨rfl, g6⟩ := g6
        refine And.intro (fun h7 => ?_) (fun h7 => ?_)
        · exact ⟨_, rfl, sp_216_etft (q_r a0) σ τ1 r1 τ3 r3 τ6 g1 (cm3t h2) g3 (cm2f h4) g6 (cm2t h7)⟩
        · exact ⟨_, rfl, sp_216_etff (q_r a0) σ τ1 r1 τ3 r3 τ6 g1 (cm3t h2) g3 (cm2f h4) g6 (cm2f h7)⟩
    · refine And.intro (fun _ => ?_) (fun h8 => absurd (show z_cmp 2 (Int32.ofInt (-1)) 0 = false from h8) (by decide))
      refine And.intro (fun _ => ?_) (fun h9 => absurd (show z_cmp 2 (Int32.ofInt (-1)) 0 = false from h9) (by decide))
      exact ⟨_, rfl, sp_216_ef (q_r a0) σ τ1 r1 g1 (cm3f h2)⟩
theorem zJ_218 : zJ3 218 z_m218 z_c218 z_h218 := ⟨rfl, rfl, rfl⟩
noncomputable def p_218 (a : Nat) (σ : zSg) (r : Int32) (σ' : zSg) : Prop := a = 205 → ∀ b B P E nf nt A, rL σ b B P E nf nt A → rDF σ σ' ∧ rOL σ' b E nf nt A r (dLk b E nf nt B (zBl b E P) 4)
theorem sp_218_ettt (a0 : Nat) (σ : zSg) (τ1 : zSg) (r1 : Int32) (τ3 : zSg) (r3 : Int32) (g1 : p_215 a0 σ r1 τ1) (h2 : r1.toInt ≥ (0 : Int)) (g3 : p_212 a0 τ1 r3 τ3) (h4 : r3.toInt < (0 : Int)) (h5 : r3.toInt < (0 : Int)) :
    p_218 (a0) σ (Int32.ofInt (0)) τ3 := by
  rintro rfl b B P E nf nt A ⟨H, hB, h0, hnf, h1, hnt⟩
  obtain ⟨f1, u⟩ := g1 rfl b P E A nf H h0 hnf
  unfold dLk dHf
  rcases u with ⟨v, A1, t, rfl, h9, hv, P1, rfl, H1⟩ | ⟨t, h8, h9⟩
  · rw [t]
    dsimp only
    obtain ⟨f2, w⟩ := H1.tf g3
    rcases w with ⟨P2, e2, h2, H2⟩ | ⟨F, e2, h2, h3⟩
    · first
      | (exfalso; omega)
      | (rw [e2]
         obtain ⟨rfl, rfl⟩ := C3
         have k3 := at4_3 (f := v) (by omega)
         have q2 := H2.q
         have i2 := H2.w.i (k := 43 + 4 * v) (by omega)
         simp only [q2, k3, i2]
         exact ⟨(f1.tr f2).tr (rDF.ww (by omega)), by decide, P2, rfl, H2.ww⟩)
    · first
      | (exfalso; omega)
      | (rw [e2]; exact ⟨f1.tr f2, rfl, h3⟩)
  · exfalso; omega
theorem sp_218_ettf (a0 : Nat) (σ : zSg) (τ1 : zSg) (r1 : Int32) (τ3 : zSg) (r3 : Int32) (g1 : p_215 a0 σ r1 τ1) (h2 : r1.toInt ≥ (0 : Int)) (g3 : p_212 a0 τ1 r3 τ3) (h4 : r3.toInt < (0 : Int)) (h5 : r3.toInt ≥ (0 : Int)) :
    p_218 (a0) σ (Int32.ofInt (1)) τ3 := by
  rintro rfl b B P E nf nt A ⟨H, hB, h0, hnf, h1, hnt⟩
  obtain ⟨f1, u⟩ := g1 rfl b P E A nf H h0 hnf
  unfold dLk dHf
  rcases u with ⟨v, A1, t, rfl, h9, hv, P1, rfl, H1⟩ | ⟨t, h8, h9⟩
  · rw [t]
    dsimp only
    obtain ⟨f2, w⟩ := H1.tf g3
    rcases w with ⟨P2, e2, h2, H2⟩ | ⟨F, e2, h2, h3⟩
    · first
      | (exfalso; omega)
      | (rw [e2]
         obtain ⟨rfl, rfl⟩ := C3
         have k3 := at4_3 (f := v) (by omega)
         have q2 := H2.q
         have i2 := H2.w.i (k := 43 + 4 * v) (by omega)
         simp only [q2, k3, i2]
         exact ⟨(f1.tr f2).tr (rDF.ww (by omega)), by decide, P2, rfl, H2.ww⟩)
    · first
      | (exfalso; omega)
      | (rw [e2]; exact ⟨f1.tr f2, rfl, h3⟩)
  · exfalso; omega
theorem sp_218_etft (a0 : Nat) (σ : zSg) (τ1 : zSg) (r1 : Int32) (τ3 : zSg) (r3 : Int32) (τ6 : zSg) (r6 : Int32) (g1 : p_215 a0 σ r1 τ1) (h2 : r1.toInt ≥ (0 : Int)) (g3 : p_212 a0 τ1 r3 τ3) (h4 : r3.toInt ≥ (0 : Int)) (g6 : p_189 r1 (Int32.ofInt (3)) τ3 r6 τ6) (h7 : 0 ≤ r6.toInt ∧ r6.toInt < (τ6.2.1 (q_r (τ3.1 a0 1)) : Int)) (h8 : 0 ≤ r6.toInt ∧ r6.toInt < (τ6.2.1 (q_r (τ3.1 a0 1)) : Int)) (h9 : r3.toInt < (0 : Int)) :
    p_218 (a0) σ (Int32.ofInt (0)) (q_w τ6 (q_r (τ3.1 a0 1)) r6.toNatClampNeg (.int ((q_i (τ6.1 (q_r (τ3.1 a0 1)) r6.toNatClampNeg)) ||| r3))) := by
  rintro rfl b B P E nf nt A ⟨H, hB, h0, hnf, h1, hnt⟩
  obtain ⟨f1, u⟩ := g1 rfl b P E A nf H h0 hnf
  unfold dLk dHf
  rcases u with ⟨v, A1, t, rfl, h9, hv, P1, rfl, H1⟩ | ⟨t, h8, h9⟩
  · rw [t]
    dsimp only
    obtain ⟨f2, w⟩ := H1.tf g3
    rcases w with ⟨P2, e2, h2, H2⟩ | ⟨F, e2, h2, h3⟩
    · first
      | (exfalso; omega)
      | (rw [e2]
         obtain ⟨rfl, rfl⟩ := g6
         have k3 := at4_3 (f := v) (by omega)
         have q2 := H2.q
         have i2 := H2.w.i (k := 43 + 4 * v) (by omega)
         simp only [q2, k3, i2]
         exact ⟨(f1.tr f2).tr (rDF.ww (by omega)), by decide, P2, rfl, H2.ww⟩)
    · first
      | (exfalso; omega)
      | (rw [e2]; exact ⟨f1.tr f2, rfl, h3⟩)
  · exfalso; omega
theorem sp_218_etff (a0 : Nat) (σ : zSg) (τ1 : zSg) (r1 : Int32) (τ3 : zSg) (r3 : Int32) (τ6 : zSg) (r6 : Int32) (g1 : p_215 a0 σ r1 τ1) (h2 : r1.toInt ≥ (0 : Int)) (g3 : p_212 a0 τ1 r3 τ3) (h4 : r3.toInt ≥ (0 : Int)) (g6 : p_189 r1 (Int32.ofInt (3)) τ3 r6 τ6) (h7 : 0 ≤ r6.toInt ∧ r6.toInt < (τ6.2.1 (q_r (τ3.1 a0 1)) : Int)) (h8 : 0 ≤ r6.toInt ∧ r6.toInt < (τ6.2.1 (q_r (τ3.1 a0 1)) : Int)) (h9 : r3.toInt ≥ (0 : Int)) :
    p_218 (a0) σ (Int32.ofInt (1)) (q_w τ6 (q_r (τ3.1 a0 1)) r6.toNatClampNeg (.int ((q_i (τ6.1 (q_r (τ3.1 a0 1)) r6.toNatClampNeg)) ||| r3))) := by
  rintro rfl b B P E nf nt A ⟨H, hB, h0, hnf, h1, hnt⟩
  obtain ⟨f1, u⟩ := g1 rfl b P E A nf H h0 hnf
  unfold dLk dHf
  rcases u with ⟨v, A1, t, rfl, h9, hv, P1, rfl, H1⟩ | ⟨t, h8, h9⟩
  · rw [t]
    dsimp only
    obtain ⟨f2, w⟩ := H1.tf g3
    rcases w with ⟨P2, e2, h2, H2⟩ | ⟨F, e2, h2, h3⟩
    · first
      | (exfalso; omega)
      | (rw [e2]
         obtain ⟨rfl, rfl⟩ := g6
         have k3 := at4_3 (f := v) (by omega)
         have q2 := H2.q
         have i2 := H2.w.i (k := 43 + 4 * v) (by omega)
         simp only [q2, k3, i2]
         exact ⟨(f1.tr f2).tr (rDF.ww (by omega)), by decide, P2, rfl, H2.ww⟩)
    · first
      | (exfalso; omega)
      | (rw [e2]; exact ⟨f1.tr f2, rfl, h3⟩)
  · exfalso; omega
theorem sp_218_ef (a0 : Nat) (σ : zSg) (τ1 : zSg) (r1 : Int32) (g1 : p_215 a0 σ r1 τ1) (h2 : r1.toInt < (0 : Int)) :
    p_218 (a0) σ (Int32.ofInt (0)) τ1 := by
  rintro rfl b B P E nf nt A ⟨H, hB, h0, hnf, h1, hnt⟩
  obtain ⟨f1, u⟩ := g1 rfl b P E A nf H h0 hnf
  unfold dLk dHf
  rcases u with ⟨v, A1, t, -, h9, -⟩ | ⟨t, h8, h9⟩
  · exfalso; omega
  · first
    | (exfalso; omega)
    | (rw [t]; exact ⟨f1, rfl, h9⟩)
noncomputable def qP_218 : zPp := fun as σ o σ' => match as with
  | [a0] => ∃ r, o = .inl (some (.int r)) ∧ p_218 (q_r a0) σ r σ'
  | _ => True
set_option maxRecDepth 100000 in
theorem sp_218 {sx : zX} (S215 : zEe sx 215 1 qP_215) (S212 : zEe sx 212 1 qP_212) (S189 : zEe sx 189 2 qP_189) : zEe sx 218 1 qP_218 := by
  refine zfle zJ_218 (sps := [(215, 1, qP_215), (212, 1, qP_212), (189, 2, qP_189)]) (fun q hq => by
    simp only [List.mem_cons, List.not_mem_nil, or_false] at hq
    rcases hq with rfl | rfl | rfl
    · exact S215
    · exact S212
    · exact S189) (fun as σ hl => ?_)
  match as, hl with
  | [a0], _ =>
  refine ⟨[], 400, ?_, ?_⟩
  · exact fun q hq => absurd hq List.not_mem_nil
  · refine fun o1 τ1 g1 => ?_
    obtain ⟨r1, rfl, g1⟩ := g1
    refine And.intro (fun h2 => ?_) (fun h2 => ?_)
    · refine fun o3 τ3 g3 => ?_
      obtain ⟨r3, rfl, g3⟩ := g3
      refine And.intro (fun h4 => ?_) (fun h4 => ?_)
      · refine And.intro (fun h5 => ?_) (fun h5 => ?_)
        · exact ⟨_, rfl, sp_218_ettt (q_r a0) σ τ1 r1 τ3 r3 g1 (cm3t h2) g3 (cm2t h4) (cm2t h5)⟩
        · exact ⟨_, rfl, sp_218_ettf (q_r a0) σ τ1 r1 τ3 r3 g1 (cm3t h2) g3 (cm2t h4) (cm2f h5)⟩
      · refine fun o6 τ6 g6 => ?_
        obtain ⟨r6, rfl, g6⟩ := g6
        refine fun h7 => ?_
        refine fun h8 => ?_
        refine And.intro (fun h9 => ?_) (fun h9 => ?_)
        · exact ⟨_, rfl, sp_218_etft (q_r a0) σ τ1 r1 τ3 r3 τ6 r6 g1 (cm3t h2) g3 (cm2f h4) g6 (q_inp h7) (q_inp h8) (cm2t h9)⟩
        · exact ⟨_, rfl, sp_218_etff (q_r a0) σ τ1 r1 τ3 r3 τ6 r6 g1 (cm3t h2) g3 (cm2f h4) g6 (q_inp h7) (q_inp h8) (cm2f h9)⟩
    · refine And.intro (fun _ => ?_) (fun h10 => absurd (show z_cmp 2 (Int32.ofInt (-1)) 0 = false from h10) (by decide))
      refine And.intro (fun _ => ?_) (fun h11 => absurd (show z_cmp 2 (Int32.ofInt (-1)) 0 = false from h11) (by decide))
      exact ⟨_, rfl, sp_218_ef (q_r a0) σ τ1 r1 g1 (cm3f h2)⟩
theorem zJ_217 : zJ3 217 z_m217 z_c217 z_h217 := ⟨rfl, rfl, rfl⟩
noncomputable def p_217 (a : Nat) (σ : zSg) (r : Int32) (σ' : zSg) : Prop := a = 205 → ∀ b B P E nf nt A, rL σ b B P E nf nt A → rDF σ σ' ∧ rOL σ' b E nf nt A r (dLk b E nf nt B (zBl b E P) 2)
theorem sp_217_ett (a0 : Nat) (σ : zSg) (τ1 : zSg) (r1 : Int32) (g1 : p_212 a0 σ r1 τ1) (h2 : r1.toInt < (0 : Int)) (h3 : r1.toInt < (0 : Int)) :
    p_217 (a0) σ (Int32.ofInt (0)) τ1 := by
  rintro rfl b B P E nf nt A ⟨H, hB, h0, hnf, h1, hnt⟩
  unfold dLk
  obtain ⟨f2, w⟩ := H.tf g1
  rcases w with ⟨P2, e2, h2, H2⟩ | ⟨F, e2, h2, h3⟩
  · first
    | (exfalso; omega)
    | (rw [e2]
       obtain ⟨f3, H3⟩ := C2 rfl b P2 E A H2
       exact ⟨f2.tr f3.df, by decide, P2, rfl, H3⟩)
  · first
    | (exfalso; omega)
    | (rw [e2]; exact ⟨f2, rfl, h3⟩)
theorem sp_217_etf (a0 : Nat) (σ : zSg) (τ1 : zSg) (r1 : Int32) (g1 : p_212 a0 σ r1 τ1) (h2 : r1.toInt < (0 : Int)) (h3 : r1.toInt ≥ (0 : Int)) :
    p_217 (a0) σ (Int32.ofInt (1)) τ1 := by
  rintro rfl b B P E nf nt A ⟨H, hB, h0, hnf, h1, hnt⟩
  unfold dLk
  obtain ⟨f2, w⟩ := H.tf g1
  rcases w with ⟨P2, e2, h2, H2⟩ | ⟨F, e2, h2, h3⟩
  · first
    | (exfalso; omega)
    | (rw [e2]
       obtain ⟨f3, H3⟩ := C2 rfl b P2 E A H2
       exact ⟨f2.tr f3.df, by decide, P2, rfl, H3⟩)
  · first
    | (exfalso; omega)
    | (rw [e2]; exact ⟨f2, rfl, h3⟩)
theorem sp_217_eft (a0 : Nat) (σ : zSg) (τ1 : zSg) (r1 : Int32) (τ4 : zSg) (g1 : p_212 a0 σ r1 τ1) (h2 : r1.toInt ≥ (0 : Int)) (g4 : p_213 a0 r1 (Int32.ofInt (-1)) τ1 τ4) (h5 : r1.toInt < (0 : Int)) :
    p_217 (a0) σ (Int32.ofInt (0)) τ4 := by
  rintro rfl b B P E nf nt A ⟨H, hB, h0, hnf, h1, hnt⟩
  unfold dLk
  obtain ⟨f2, w⟩ := H.tf g1
  rcases w with ⟨P2, e2, h2, H2⟩ | ⟨F, e2, h2, h3⟩
  · first
    | (exfalso; omega)
    | (rw [e2]
       obtain ⟨f3, H3⟩ := g4 rfl b P2 E A H2
       exact ⟨f2.tr f3.df, by decide, P2, rfl, H3⟩)
  · first
    | (exfalso; omega)
    | (rw [e2]; exact ⟨f2, rfl, h3⟩)
theorem sp_217_eff (a0 : Nat) (σ : zSg) (τ1 : zSg) (r1 : Int32) (τ4 : zSg) (g1 : p_212 a0 σ r1 τ1) (h2 : r1.toInt ≥ (0 : Int)) (g4 : p_213 a0 r1 (Int32.ofInt (-1)) τ1 τ4) (h5 : r1.toInt ≥ (0 : Int)) :
    p_217 (a0) σ (Int32.ofInt (1)) τ4 := by
  rintro rfl b B P E nf nt A ⟨H, hB, h0, hnf, h1, hnt⟩
  unfold dLk
  obtain ⟨f2, w⟩ := H.tf g1
  rcases w with ⟨P2, e2, h2, H2⟩ | ⟨F, e2, h2, h3⟩
  · first
    | (exfalso; omega)
    | (rw [e2]
       obtain ⟨f3, H3⟩ := g4 rfl b P2 E A H2
       exact ⟨f2.tr f3.df, by decide, P2, rfl, H3⟩)
  · first
    | (exfalso; omega)
    | (rw [e2]; exact ⟨f2, rfl, h3⟩)
noncomputable def qP_217 : zPp := fun as σ o σ' => match as with
  | [a0] => ∃ r, o = .inl (some (.int r)) ∧ p_217 (q_r a0) σ r σ'
  | _ => True
set_option maxRecDepth 100000 in
theorem sp_217 {sx : zX} (S212 : zEe sx 212 1 qP_212) (S213 : zEe sx 213 3 qP_213) : zEe sx 217 1 qP_217 := by
  refine zfle zJ_217 (sps := [(212, 1, qP_212), (213, 3, qP_213)]) (fun q hq => by
    simp only [List.mem_cons, List.not_mem_nil, or_false] at hq
    rcases hq with rfl | rfl
    · exact S212
    · exact S213) (fun as σ hl => ?_)
  match as, hl with
  | [a0], _ =>
  refine ⟨[], 400, ?_, ?_⟩
  · exact fun q hq => absurd hq List.not_mem_nil
  · refine fun o1 τ1 g1 => ?_
    obtain ⟨r1, rfl, g1⟩ := g1
    refine And.intro (fun h2 => ?_) (fun h2 => ?_)
    · refine And.intro (fun h3 => ?_) (fun h3 => ?_)
      · exact ⟨_, rfl, sp_217_ett (q_r a0) σ τ1 r1 g1 (cm2t h2) (cm2t h3)⟩
      · exact ⟨_, rfl, sp_217_etf (q_r a0) σ τ1 r1 g1 (cm2t h2) (cm2f h3)⟩
    · refine fun o4 τ4 g4 => ?_
      obtain ⟨rfl, g4⟩ := g4
      refine And.intro (fun h5 => ?_) (fun h5 => ?_)
      · exact ⟨_, rfl, sp_217_eft (q_r a0) σ τ1 r1 τ4 g1 (cm2f h2) g4 (cm2t h5)⟩
      · exact ⟨_, rfl, sp_217_eff (q_r a0) σ τ1 r1 τ4 g1 (cm2f h2) g4 (cm2f h5)⟩
theorem zJ_214 : zJ3 214 z_m214 z_c214 z_h214 := ⟨rfl, rfl, rfl⟩
noncomputable def p_214 (a : Nat) (σ : zSg) (r : Int32) (σ' : zSg) : Prop := a = 205 → ∀ b B P E nf nt A, rL σ b B P E nf nt A → rDF σ σ' ∧ rOL σ' b E nf nt A r (dLk b E nf nt B (zBl b E P) 0)
theorem sp_214_etttttt (a0 : Nat) (σ : zSg) (τ1 : zSg) (r1 : Int32) (τ3 : zSg) (r3 : Int32) (τ5 : zSg) (r5 : Int32) (τ7 : zSg) (r7 : Int32) (τ9 : zSg) (r9 : Int32) (τ12 : zSg) (r12 : Int32) (τ15 : zSg) (r15 : Int32) (τ17 : zSg) (r17 : Int32) (τ19 : zSg) (r19 : Int32) (τ21 : zSg) (r21 : Int32) (τ23 : zSg) (g1 : p_184 a0 σ r1 τ1) (h2 : r1.toInt ≠ (6 : Int)) (g3 : p_208 a0 (zB + 43) (Int32.ofInt (0)) (Int32.ofInt (999)) τ1 r3 τ3) (h4 : r3.toInt ≥ (0 : Int)) (g5 : p_208 a0 (zB + 44) (Int32.ofInt (0)) (Int32.ofInt (9)) τ3 r5 τ5) (h6 : r5.toInt ≥ (0 : Int)) (g7 : p_208 a0 (zB + 45) (Int32.ofInt (0)) (Int32.ofInt (9)) τ5 r7 τ7) (h8 : r7.toInt ≥ (0 : Int)) (g9 : p_205 a0 (zB + 46) τ7 r9 τ9) (h10 : r9.toInt = (0 : Int)) (g12 : p_205 a0 (zB + 47) τ9 r12 τ12) (h13 : r12.toInt = (0 : Int)) (g15 : p_189 r1 (Int32.ofInt (0)) τ12 r15 τ15) (h16 : 0 ≤ r15.toInt ∧ r15.toInt < (τ15.2.1 (q_r (τ12.1 a0 1)) : Int)) (g17 : p_189 r1 (Int32.ofInt (1)) (q_w τ15 (q_r (τ12.1 a0 1)) r15.toNatClampNeg (.int r3)) r17 τ17) (h18 : 0 ≤ r17.toInt ∧ r17.toInt < (τ17.2.1 (q_r ((q_w τ15 (q_r (τ12.1 a0 1)) r15.toNatClampNeg (.int r3)).1 a0 1)) : Int)) (g19 : p_189 r1 (Int32.ofInt (2)) (q_w τ17 (q_r ((q_w τ15 (q_r (τ12.1 a0 1)) r15.toNatClampNeg (.int r3)).1 a0 1)) r17.toNatClampNeg (.int r5)) r19 τ19) (h20 : 0 ≤ r19.toInt ∧ r19.toInt < (τ19.2.1 (q_r ((q_w τ17 (q_r ((q_w τ15 (q_r (τ12.1 a0 1)) r15.toNatClampNeg (.int r3)).1 a0 1)) r17.toNatClampNeg (.int r5)).1 a0 1)) : Int)) (g21 : p_189 r1 (Int32.ofInt (3)) (q_w τ19 (q_r ((q_w τ17 (q_r ((q_w τ15 (q_r (τ12.1 a0 1)) r15.toNatClampNeg (.int r3)).1 a0 1)) r17.toNatClampNeg (.int r5)).1 a0 1)) r19.toNatClampNeg (.int r7)) r21 τ21) (h22 : 0 ≤ r21.toInt ∧ r21.toInt < (τ21.2.1 (q_r ((q_w τ19 (q_r ((q_w τ17 (q_r ((q_w τ15 (q_r (τ12.1 a0 1)) r15.toNatClampNeg (.int r3)).1 a0 1)) r17.toNatClampNeg (.int r5)).1 a0 1)) r19.toNatClampNeg (.int r7)).1 a0 1)) : Int)) (g23 : p_213 a0 (Int32.ofInt (0)) r1 (q_w τ21 (q_r ((q_w τ19 (q_r ((q_w τ17 (q_r ((q_w τ15 (q_r (τ12.1 a0 1)) r15.toNatClampNeg (.int r3)).1 a0 1)) r17.toNatClampNeg (.int r5)).1 a0 1)) r19.toNatClampNeg (.int r7)).1 a0 1)) r21.toNatClampNeg (.int (Int32.ofInt (0)))) τ23) (h24 : 0 ≤ (Int32.ofInt (0)).toInt ∧ (Int32.ofInt (0)).toInt < (τ23.2.1 (q_r (τ23.1 a0 1)) : Int)) (h25 : 0 ≤ (Int32.ofInt (0)).toInt ∧ (Int32.ofInt (0)).toInt < (τ23.2.1 (q_r (τ23.1 a0 1)) : Int)) :
    p_214 (a0) σ (Int32.ofInt (1)) (q_w τ23 (q_r (τ23.1 a0 1)) (Int32.ofInt (0)).toNatClampNeg (.int ((q_i (τ23.1 (q_r (τ23.1 a0 1)) (Int32.ofInt (0)).toNatClampNeg)) + (Int32.ofInt (1))))) := by
  rintro rfl b B P E nf nt A ⟨H, hB, h0, hnf, h1, hnt⟩
  obtain ⟨rfl, e0⟩ := g1
  have e0 := (e0 rfl A H.w).trans h0
  rw [e0, o32 (by omega)] at h2
  obtain ⟨f1, u1⟩ := H.af g3 qsi_43 (by decide)
  rw [show (Int32.ofInt 0).toInt = 0 from rfl, show (Int32.ofInt 999).toInt = 999 from rfl] at u1
  rcases u1 with ⟨v1, P1, e1, w1, h9, H1⟩ | ⟨F, -, h9, -⟩
  case inr => exfalso; omega
  obtain ⟨f2, u2⟩ := H1.af g5 qsi_44 (by decide)
  rw [show (Int32.ofInt 0).toInt = 0 from rfl, show (Int32.ofInt 9).toInt = 9 from rfl] at u2
  rcases u2 with ⟨v2, P2, e2, w2, h9, H2⟩ | ⟨F, -, h9, -⟩
  case inr => exfalso; omega
  obtain ⟨f3, u3⟩ := H2.af g7 qsi_45 (by decide)
  rw [show (Int32.ofInt 0).toInt = 0 from rfl, show (Int32.ofInt 9).toInt = 9 from rfl] at u3
  rcases u3 with ⟨v3, P3, e3, w3, h9, H3⟩ | ⟨F, -, h9, -⟩
  case inr => exfalso; omega
  obtain ⟨f4, -, -, u4⟩ := H3.ps g9 qsi_46 (by decide)
  obtain ⟨e4, H4⟩ := u4 h10
  have o4 : dOh b E wHours (zBl b E P3) = .inl (zBl b E (zBl b E P3), 0) := by unfold dOh; rw [e4, zBl_bl]
  obtain ⟨f5, -, -, u5⟩ := H4.ps g12 qsi_47 (by decide)
  obtain ⟨e5, G0⟩ := u5 h13
  have o5 : dOh b E wWishes (zBl b E (zBl b E P3)) = .inl (zBl b E (zBl b E P3), 0) := by unfold dOh; rw [e5]
  obtain ⟨rfl, rfl⟩ := g15
  obtain ⟨rfl, rfl⟩ := g17
  obtain ⟨rfl, rfl⟩ := g19
  obtain ⟨rfl, rfl⟩ := g21
  have n6 : nf < 6 := by omega
  have K0 := G0.ww (k := 40 + 4 * nf) (v := r3)
  have K1 := K0.ww (k := 41 + 4 * nf) (v := r5)
  have K2 := K1.ww (k := 42 + 4 * nf) (v := r7)
  have K3 := K2.ww (k := 43 + 4 * nf) (v := Int32.ofInt 0)
  simp only [e0, at4_0 n6, at4_1 n6, at4_2 n6, at4_3 n6, G0.q, K0.q, K1.q, K2.q] at g23 ⊢
  obtain ⟨f9, K4⟩ := g23 rfl _ _ _ _ K3
  have i0 := K4.w.i (k := 0) (by omega)
  have z0 : (Int32.ofInt 0).toNatClampNeg = 0 := rfl
  simp only [K4.q, z0, i0]
  refine ⟨((((((((((f1.tr f2).tr f3).tr f4).tr f5).tr (rDF.ww (by omega))).tr (rDF.ww (by omega))).tr (rDF.ww (by omega))).tr (rDF.ww (by omega))).tr f9.df).tr (rDF.ww (by omega))), ?_⟩
  unfold dLk
  rw [if_neg (by omega)]
  unfold dFam
  rw [e1]
  dsimp only
  rw [e2]
  dsimp only
  rw [e3]
  dsimp only
  rw [o4]
  dsimp only
  rw [o5]
  refine ⟨by decide, zBl b E (zBl b E P3), zBl_bl, (K4.ww (k := 0)).cg (fun k _ => ?_)⟩
  have v9 : dG (aU (aU (aU (aU A (40 + 4 * nf) r3) (41 + 4 * nf) r5) (42 + 4 * nf) r7) (43 + 4 * nf) (Int32.ofInt 0)) (Int32.ofInt 0) (Int32.ofNat nf) 0 + Int32.ofInt 1 = Int32.ofNat (nf + 1) := by
    have : dG (aU (aU (aU (aU A (40 + 4 * nf) r3) (41 + 4 * nf) r5) (42 + 4 * nf) r7) (43 + 4 * nf) (Int32.ofInt 0)) (Int32.ofInt 0) (Int32.ofNat nf) 0 = Int32.ofNat nf := by
      rw [dG_ne (by omega), aU_ne (by omega), aU_ne (by omega), aU_ne (by omega), aU_ne (by omega)]
      exact h0
    rw [this]
    exact o32i (by omega)
  rw [v9, w1, w2, w3]
  rfl
theorem sp_214_etttttft (a0 : Nat) (σ : zSg) (τ1 : zSg) (r1 : Int32) (τ3 : zSg) (r3 : Int32) (τ5 : zSg) (r5 : Int32) (τ7 : zSg) (r7 : Int32) (τ9 : zSg) (r9 : Int32) (τ12 : zSg) (r12 : Int32) (τ26 : zSg) (r26 : Int32) (τ28 : zSg) (r28 : Int32) (τ30 : zSg) (r30 : Int32) (τ32 : zSg) (r32 : Int32) (τ34 : zSg) (r34 : Int32) (τ36 : zSg) (g1 : p_184 a0 σ r1 τ1) (h2 : r1.toInt ≠ (6 : Int)) (g3 : p_208 a0 (zB + 43) (Int32.ofInt (0)) (Int32.ofInt (999)) τ1 r3 τ3) (h4 : r3.toInt ≥ (0 : Int)) (g5 : p_208 a0 (zB + 44) (Int32.ofInt (0)) (Int32.ofInt (9)) τ3 r5 τ5) (h6 : r5.toInt ≥ (0 : Int)) (g7 : p_208 a0 (zB + 45) (Int32.ofInt (0)) (Int32.ofInt (9)) τ5 r7 τ7) (h8 : r7.toInt ≥ (0 : Int)) (g9 : p_205 a0 (zB + 46) τ7 r9 τ9) (h10 : r9.toInt = (0 : Int)) (g12 : p_205 a0 (zB + 47) τ9 r12 τ12) (h13 : r12.toInt ≠ (0 : Int)) (g26 : p_212 a0 τ12 r26 τ26) (h27 : r26.toInt ≥ (0 : Int)) (g28 : p_189 r1 (Int32.ofInt (0)) τ26 r28 τ28) (h29 : 0 ≤ r28.toInt ∧ r28.toInt < (τ28.2.1 (q_r (τ26.1 a0 1)) : Int)) (g30 : p_189 r1 (Int32.ofInt (1)) (q_w τ28 (q_r (τ26.1 a0 1)) r28.toNatClampNeg (.int r3)) r30 τ30) (h31 : 0 ≤ r30.toInt ∧ r30.toInt < (τ30.2.1 (q_r ((q_w τ28 (q_r (τ26.1 a0 1)) r28.toNatClampNeg (.int r3)).1 a0 1)) : Int)) (g32 : p_189 r1 (Int32.ofInt (2)) (q_w τ30 (q_r ((q_w τ28 (q_r (τ26.1 a0 1)) r28.toNatClampNeg (.int r3)).1 a0 1)) r30.toNatClampNeg (.int r5)) r32 τ32) (h33 : 0 ≤ r32.toInt ∧ r32.toInt < (τ32.2.1 (q_r ((q_w τ30 (q_r ((q_w τ28 (q_r (τ26.1 a0 1)) r28.toNatClampNeg (.int r3)).1 a0 1)) r30.toNatClampNeg (.int r5)).1 a0 1)) : Int)) (g34 : p_189 r1 (Int32.ofInt (3)) (q_w τ32 (q_r ((q_w τ30 (q_r ((q_w τ28 (q_r (τ26.1 a0 1)) r28.toNatClampNeg (.int r3)).1 a0 1)) r30.toNatClampNeg (.int r5)).1 a0 1)) r32.toNatClampNeg (.int r7)) r34 τ34) (h35 : 0 ≤ r34.toInt ∧ r34.toInt < (τ34.2.1 (q_r ((q_w τ32 (q_r ((q_w τ30 (q_r ((q_w τ28 (q_r (τ26.1 a0 1)) r28.toNatClampNeg (.int r3)).1 a0 1)) r30.toNatClampNeg (.int r5)).1 a0 1)) r32.toNatClampNeg (.int r7)).1 a0 1)) : Int)) (g36 : p_213 a0 (Int32.ofInt (0)) r1 (q_w τ34 (q_r ((q_w τ32 (q_r ((q_w τ30 (q_r ((q_w τ28 (q_r (τ26.1 a0 1)) r28.toNatClampNeg (.int r3)).1 a0 1)) r30.toNatClampNeg (.int r5)).1 a0 1)) r32.toNatClampNeg (.int r7)).1 a0 1)) r34.toNatClampNeg (.int r26)) τ36) (h37 : 0 ≤ (Int32.ofInt (0)).toInt ∧ (Int32.ofInt (0)).toInt < (τ36.2.1 (q_r (τ36.1 a0 1)) : Int)) (h38 : 0 ≤ (Int32.ofInt (0)).toInt ∧ (Int32.ofInt (0)).toInt < (τ36.2.1 (q_r (τ36.1 a0 1)) : Int)) :
    p_214 (a0) σ (Int32.ofInt (1)) (q_w τ36 (q_r (τ36.1 a0 1)) (Int32.ofInt (0)).toNatClampNeg (.int ((q_i (τ36.1 (q_r (τ36.1 a0 1)) (Int32.ofInt (0)).toNatClampNeg)) + (Int32.ofInt (1))))) := by
  rintro rfl b B P E nf nt A ⟨H, hB, h0, hnf, h1, hnt⟩
  obtain ⟨rfl, e0⟩ := g1
  have e0 := (e0 rfl A H.w).trans h0
  rw [e0, o32 (by omega)] at h2
  obtain ⟨f1, u1⟩ := H.af g3 qsi_43 (by decide)
  rw [show (Int32.ofInt 0).toInt = 0 from rfl, show (Int32.ofInt 999).toInt = 999 from rfl] at u1
  rcases u1 with ⟨v1, P1, e1, w1, h9, H1⟩ | ⟨F, -, h9, -⟩
  case inr => exfalso; omega
  obtain ⟨f2, u2⟩ := H1.af g5 qsi_44 (by decide)
  rw [show (Int32.ofInt 0).toInt = 0 from rfl, show (Int32.ofInt 9).toInt = 9 from rfl] at u2
  rcases u2 with ⟨v2, P2, e2, w2, h9, H2⟩ | ⟨F, -, h9, -⟩
  case inr => exfalso; omega
  obtain ⟨f3, u3⟩ := H2.af g7 qsi_45 (by decide)
  rw [show (Int32.ofInt 0).toInt = 0 from rfl, show (Int32.ofInt 9).toInt = 9 from rfl] at u3
  rcases u3 with ⟨v3, P3, e3, w3, h9, H3⟩ | ⟨F, -, h9, -⟩
  case inr => exfalso; omega
  obtain ⟨f4, -, -, u4⟩ := H3.ps g9 qsi_46 (by decide)
  obtain ⟨e4, H4⟩ := u4 h10
  have o4 : dOh b E wHours (zBl b E P3) = .inl (zBl b E (zBl b E P3), 0) := by unfold dOh; rw [e4, zBl_bl]
  obtain ⟨f5, -, u5, -⟩ := H4.ps g12 qsi_47 (by decide)
  obtain ⟨P8, e5, H8⟩ := u5 h13
  obtain ⟨f6, u6⟩ := H8.tf g26
  rcases u6 with ⟨P9, e9, h9, G0⟩ | ⟨F, -, h9, -⟩
  case inr => exfalso; omega
  have o5 : dOh b E wWishes (zBl b E (zBl b E P3)) = .inl (zBl b E P9, r26) := by unfold dOh; rw [e5]; exact e9
  obtain ⟨rfl, rfl⟩ := g28
  obtain ⟨rfl, rfl⟩ := g30
  obtain ⟨rfl, rfl⟩ := g32
  obtain ⟨rfl, rfl⟩ := g34
  have n6 : nf < 6 := by omega
  have K0 := G0.ww (k := 40 + 4 * nf) (v := r3)
  have K1 := K0.ww (k := 41 + 4 * nf) (v := r5)
  have K2 := K1.ww (k := 42 + 4 * nf) (v := r7)
  have K3 := K2.ww (k := 43 + 4 * nf) (v := r26)
  simp only [e0, at4_0 n6, at4_1 n6, at4_2 n6, at4_3 n6, G0.q, K0.q, K1.q, K2.q] at g36 ⊢
  obtain ⟨f9, K4⟩ := g36 rfl _ _ _ _ K3
  have i0 := K4.w.i (k := 0) (by omega)
  have z0 : (Int32.ofInt 0).toNatClampNeg = 0 := rfl
  simp only [K4.q, z0, i0]
  refine ⟨(((((((((((f1.tr f2).tr f3).tr f4).tr f5).tr f6).tr (rDF.ww (by omega))).tr (rDF.ww (by omega))).tr (rDF.ww (by omega))).tr (rDF.ww (by omega))).tr f9.df).tr (rDF.ww (by omega))), ?_⟩
  unfold dLk
  rw [if_neg (by omega)]
  unfold dFam
  rw [e1]
  dsimp only
  rw [e2]
  dsimp only
  rw [e3]
  dsimp only
  rw [o4]
  dsimp only
  rw [o5]
  refine ⟨by decide, P9, rfl, (K4.ww (k := 0)).cg (fun k _ => ?_)⟩
  have v9 : dG (aU (aU (aU (aU A (40 + 4 * nf) r3) (41 + 4 * nf) r5) (42 + 4 * nf) r7) (43 + 4 * nf) (r26)) (Int32.ofInt 0) (Int32.ofNat nf) 0 + Int32.ofInt 1 = Int32.ofNat (nf + 1) := by
    have : dG (aU (aU (aU (aU A (40 + 4 * nf) r3) (41 + 4 * nf) r5) (42 + 4 * nf) r7) (43 + 4 * nf) (r26)) (Int32.ofInt 0) (Int32.ofNat nf) 0 = Int32.ofNat nf := by
      rw [dG_ne (by omega), aU_ne (by omega), aU_ne (by omega), aU_ne (by omega), aU_ne (by omega)]
      exact h0
    rw [this]
    exact o32i (by omega)
  rw [v9, w1, w2, w3]
  rfl
theorem sp_214_etttttff (a0 : Nat) (σ : zSg) (τ1 : zSg) (r1 : Int32) (τ3 : zSg) (r3 : Int32) (τ5 : zSg) (r5 : Int32) (τ7 : zSg) (r7 : Int32) (τ9 : zSg) (r9 : Int32) (τ12 : zSg) (r12 : Int32) (τ26 : zSg) (r26 : Int32) (g1 : p_184 a0 σ r1 τ1) (h2 : r1.toInt ≠ (6 : Int)) (g3 : p_208 a0 (zB + 43) (Int32.ofInt (0)) (Int32.ofInt (999)) τ1 r3 τ3) (h4 : r3.toInt ≥ (0 : Int)) (g5 : p_208 a0 (zB + 44) (Int32.ofInt (0)) (Int32.ofInt (9)) τ3 r5 τ5) (h6 : r5.toInt ≥ (0 : Int)) (g7 : p_208 a0 (zB + 45) (Int32.ofInt (0)) (Int32.ofInt (9)) τ5 r7 τ7) (h8 : r7.toInt ≥ (0 : Int)) (g9 : p_205 a0 (zB + 46) τ7 r9 τ9) (h10 : r9.toInt = (0 : Int)) (g12 : p_205 a0 (zB + 47) τ9 r12 τ12) (h13 : r12.toInt ≠ (0 : Int)) (g26 : p_212 a0 τ12 r26 τ26) (h27 : r26.toInt < (0 : Int)) :
    p_214 (a0) σ (Int32.ofInt (0)) τ26 := by
  rintro rfl b B P E nf nt A ⟨H, hB, h0, hnf, h1, hnt⟩
  obtain ⟨rfl, e0⟩ := g1
  have e0 := (e0 rfl A H.w).trans h0
  rw [e0, o32 (by omega)] at h2
  obtain ⟨f1, u1⟩ := H.af g3 qsi_43 (by decide)
  rw [show (Int32.ofInt 0).toInt = 0 from rfl, show (Int32.ofInt 999).toInt = 999 from rfl] at u1
  rcases u1 with ⟨v1, P1, e1, w1, h9, H1⟩ | ⟨F, -, h9, -⟩
  case inr => exfalso; omega
  obtain ⟨f2, u2⟩ := H1.af g5 qsi_44 (by decide)
  rw [show (Int32.ofInt 0).toInt = 0 from rfl, show (Int32.ofInt 9).toInt = 9 from rfl] at u2
  rcases u2 with ⟨v2, P2, e2, w2, h9, H2⟩ | ⟨F, -, h9, -⟩
  case inr => exfalso; omega
  obtain ⟨f3, u3⟩ := H2.af g7 qsi_45 (by decide)
  rw [show (Int32.ofInt 0).toInt = 0 from rfl, show (Int32.ofInt 9).toInt = 9 from rfl] at u3
  rcases u3 with ⟨v3, P3, e3, w3, h9, H3⟩ | ⟨F, -, h9, -⟩
  case inr => exfalso; omega
  obtain ⟨f4, -, -, u4⟩ := H3.ps g9 qsi_46 (by decide)
  obtain ⟨e4, H4⟩ := u4 h10
  have o4 : dOh b E wHours (zBl b E P3) = .inl (zBl b E (zBl b E P3), 0) := by unfold dOh; rw [e4, zBl_bl]
  obtain ⟨f5, -, u5, -⟩ := H4.ps g12 qsi_47 (by decide)
  obtain ⟨P8, e5, H8⟩ := u5 h13
  obtain ⟨f6, u6⟩ := H8.tf g26
  rcases u6 with ⟨P', -, h9, -⟩ | ⟨F, e9, h9, t9⟩
  · exfalso; omega
  unfold dLk
  rw [if_neg (by omega)]
  unfold dFam
  rw [e1]
  dsimp only
  rw [e2]
  dsimp only
  rw [e3]
  dsimp only
  rw [o4]
  dsimp only
  unfold dOh
  rw [e5]
  dsimp only
  rw [e9]
  exact ⟨(((((f1.tr f2).tr f3).tr f4).tr f5).tr f6), rfl, t9⟩
theorem sp_214_ettttftt (a0 : Nat) (σ : zSg) (τ1 : zSg) (r1 : Int32) (τ3 : zSg) (r3 : Int32) (τ5 : zSg) (r5 : Int32) (τ7 : zSg) (r7 : Int32) (τ9 : zSg) (r9 : Int32) (τ39 : zSg) (r39 : Int32) (τ41 : zSg) (r41 : Int32) (τ44 : zSg) (r44 : Int32) (τ46 : zSg) (r46 : Int32) (τ48 : zSg) (r48 : Int32) (τ50 : zSg) (r50 : Int32) (τ52 : zSg) (g1 : p_184 a0 σ r1 τ1) (h2 : r1.toInt ≠ (6 : Int)) (g3 : p_208 a0 (zB + 43) (Int32.ofInt (0)) (Int32.ofInt (999)) τ1 r3 τ3) (h4 : r3.toInt ≥ (0 : Int)) (g5 : p_208 a0 (zB + 44) (Int32.ofInt (0)) (Int32.ofInt (9)) τ3 r5 τ5) (h6 : r5.toInt ≥ (0 : Int)) (g7 : p_208 a0 (zB + 45) (Int32.ofInt (0)) (Int32.ofInt (9)) τ5 r7 τ7) (h8 : r7.toInt ≥ (0 : Int)) (g9 : p_205 a0 (zB + 46) τ7 r9 τ9) (h10 : r9.toInt ≠ (0 : Int)) (g39 : p_212 a0 τ9 r39 τ39) (h40 : r39.toInt ≥ (0 : Int)) (g41 : p_205 a0 (zB + 47) τ39 r41 τ41) (h42 : r41.toInt = (0 : Int)) (g44 : p_189 r1 (Int32.ofInt (0)) τ41 r44 τ44) (h45 : 0 ≤ r44.toInt ∧ r44.toInt < (τ44.2.1 (q_r (τ41.1 a0 1)) : Int)) (g46 : p_189 r1 (Int32.ofInt (1)) (q_w τ44 (q_r (τ41.1 a0 1)) r44.toNatClampNeg (.int r3)) r46 τ46) (h47 : 0 ≤ r46.toInt ∧ r46.toInt < (τ46.2.1 (q_r ((q_w τ44 (q_r (τ41.1 a0 1)) r44.toNatClampNeg (.int r3)).1 a0 1)) : Int)) (g48 : p_189 r1 (Int32.ofInt (2)) (q_w τ46 (q_r ((q_w τ44 (q_r (τ41.1 a0 1)) r44.toNatClampNeg (.int r3)).1 a0 1)) r46.toNatClampNeg (.int r5)) r48 τ48) (h49 : 0 ≤ r48.toInt ∧ r48.toInt < (τ48.2.1 (q_r ((q_w τ46 (q_r ((q_w τ44 (q_r (τ41.1 a0 1)) r44.toNatClampNeg (.int r3)).1 a0 1)) r46.toNatClampNeg (.int r5)).1 a0 1)) : Int)) (g50 : p_189 r1 (Int32.ofInt (3)) (q_w τ48 (q_r ((q_w τ46 (q_r ((q_w τ44 (q_r (τ41.1 a0 1)) r44.toNatClampNeg (.int r3)).1 a0 1)) r46.toNatClampNeg (.int r5)).1 a0 1)) r48.toNatClampNeg (.int r7)) r50 τ50) (h51 : 0 ≤ r50.toInt ∧ r50.toInt < (τ50.2.1 (q_r ((q_w τ48 (q_r ((q_w τ46 (q_r ((q_w τ44 (q_r (τ41.1 a0 1)) r44.toNatClampNeg (.int r3)).1 a0 1)) r46.toNatClampNeg (.int r5)).1 a0 1)) r48.toNatClampNeg (.int r7)).1 a0 1)) : Int)) (g52 : p_213 a0 r39 r1 (q_w τ50 (q_r ((q_w τ48 (q_r ((q_w τ46 (q_r ((q_w τ44 (q_r (τ41.1 a0 1)) r44.toNatClampNeg (.int r3)).1 a0 1)) r46.toNatClampNeg (.int r5)).1 a0 1)) r48.toNatClampNeg (.int r7)).1 a0 1)) r50.toNatClampNeg (.int (Int32.ofInt (0)))) τ52) (h53 : 0 ≤ (Int32.ofInt (0)).toInt ∧ (Int32.ofInt (0)).toInt < (τ52.2.1 (q_r (τ52.1 a0 1)) : Int)) (h54 : 0 ≤ (Int32.ofInt (0)).toInt ∧ (Int32.ofInt (0)).toInt < (τ52.2.1 (q_r (τ52.1 a0 1)) : Int)) :
    p_214 (a0) σ (Int32.ofInt (1)) (q_w τ52 (q_r (τ52.1 a0 1)) (Int32.ofInt (0)).toNatClampNeg (.int ((q_i (τ52.1 (q_r (τ52.1 a0 1)) (Int32.ofInt (0)).toNatClampNeg)) + (Int32.ofInt (1))))) := by
  rintro rfl b B P E nf nt A ⟨H, hB, h0, hnf, h1, hnt⟩
  obtain ⟨rfl, e0⟩ := g1
  have e0 := (e0 rfl A H.w).trans h0
  rw [e0, o32 (by omega)] at h2
  obtain ⟨f1, u1⟩ := H.af g3 qsi_43 (by decide)
  rw [show (Int32.ofInt 0).toInt = 0 from rfl, show (Int32.ofInt 999).toInt = 999 from rfl] at u1
  rcases u1 with ⟨v1, P1, e1, w1, h9, H1⟩ | ⟨F, -, h9, -⟩
  case inr => exfalso; omega
  obtain ⟨f2, u2⟩ := H1.af g5 qsi_44 (by decide)
  rw [show (Int32.ofInt 0).toInt = 0 from rfl, show (Int32.ofInt 9).toInt = 9 from rfl] at u2
  rcases u2 with ⟨v2, P2, e2, w2, h9, H2⟩ | ⟨F, -, h9, -⟩
  case inr => exfalso; omega
  obtain ⟨f3, u3⟩ := H2.af g7 qsi_45 (by decide)
  rw [show (Int32.ofInt 0).toInt = 0 from rfl, show (Int32.ofInt 9).toInt = 9 from rfl] at u3
  rcases u3 with ⟨v3, P3, e3, w3, h9, H3⟩ | ⟨F, -, h9, -⟩
  case inr => exfalso; omega
  obtain ⟨f4, -, u4, -⟩ := H3.ps g9 qsi_46 (by decide)
  obtain ⟨P4, e4, H4⟩ := u4 h10
  obtain ⟨f5, u5⟩ := H4.tf g39
  rcases u5 with ⟨P5, e5, h9, H5⟩ | ⟨F, -, h9, -⟩
  case inr => exfalso; omega
  have o4 : dOh b E wHours (zBl b E P3) = .inl (zBl b E P5, r39) := by unfold dOh; rw [e4]; exact e5
  obtain ⟨f6, -, -, u6⟩ := H5.ps g41 qsi_47 (by decide)
  obtain ⟨e6, G0⟩ := u6 h42
  have o5 : dOh b E wWishes (zBl b E P5) = .inl (zBl b E P5, 0) := by unfold dOh; rw [e6]
  obtain ⟨rfl, rfl⟩ := g44
  obtain ⟨rfl, rfl⟩ := g46
  obtain ⟨rfl, rfl⟩ := g48
  obtain ⟨rfl, rfl⟩ := g50
  have n6 : nf < 6 := by omega
  have K0 := G0.ww (k := 40 + 4 * nf) (v := r3)
  have K1 := K0.ww (k := 41 + 4 * nf) (v := r5)
  have K2 := K1.ww (k := 42 + 4 * nf) (v := r7)
  have K3 := K2.ww (k := 43 + 4 * nf) (v := Int32.ofInt 0)
  simp only [e0, at4_0 n6, at4_1 n6, at4_2 n6, at4_3 n6, G0.q, K0.q, K1.q, K2.q] at g52 ⊢
  obtain ⟨f9, K4⟩ := g52 rfl _ _ _ _ K3
  have i0 := K4.w.i (k := 0) (by omega)
  have z0 : (Int32.ofInt 0).toNatClampNeg = 0 := rfl
  simp only [K4.q, z0, i0]
  refine ⟨(((((((((((f1.tr f2).tr f3).tr f4).tr f5).tr f6).tr (rDF.ww (by omega))).tr (rDF.ww (by omega))).tr (rDF.ww (by omega))).tr (rDF.ww (by omega))).tr f9.df).tr (rDF.ww (by omega))), ?_⟩
  unfold dLk
  rw [if_neg (by omega)]
  unfold dFam
  rw [e1]
  dsimp only
  rw [e2]
  dsimp only
  rw [e3]
  dsimp only
  rw [o4]
  dsimp only
  rw [o5]
  refine ⟨by decide, zBl b E P5, zBl_bl, (K4.ww (k := 0)).cg (fun k _ => ?_)⟩
  have v9 : dG (aU (aU (aU (aU A (40 + 4 * nf) r3) (41 + 4 * nf) r5) (42 + 4 * nf) r7) (43 + 4 * nf) (Int32.ofInt 0)) (r39) (Int32.ofNat nf) 0 + Int32.ofInt 1 = Int32.ofNat (nf + 1) := by
    have : dG (aU (aU (aU (aU A (40 + 4 * nf) r3) (41 + 4 * nf) r5) (42 + 4 * nf) r7) (43 + 4 * nf) (Int32.ofInt 0)) (r39) (Int32.ofNat nf) 0 = Int32.ofNat nf := by
      rw [dG_ne (by omega), aU_ne (by omega), aU_ne (by omega), aU_ne (by omega), aU_ne (by omega)]
      exact h0
    rw [this]
    exact o32i (by omega)
  rw [v9, w1, w2, w3]
  rfl
theorem sp_214_ettttftft (a0 : Nat) (σ : zSg) (τ1 : zSg) (r1 : Int32) (τ3 : zSg) (r3 : Int32) (τ5 : zSg) (r5 : Int32) (τ7 : zSg) (r7 : Int32) (τ9 : zSg) (r9 : Int32) (τ39 : zSg) (r39 : Int32) (τ41 : zSg) (r41 : Int32) (τ55 : zSg) (r55 : Int32) (τ57 : zSg) (r57 : Int32) (τ59 : zSg) (r59 : Int32) (τ61 : zSg) (r61 : Int32) (τ63 : zSg) (r63 : Int32) (τ65 : zSg) (g1 : p_184 a0 σ r1 τ1) (h2 : r1.toInt ≠ (6 : Int)) (g3 : p_208 a0 (zB + 43) (Int32.ofInt (0)) (Int32.ofInt (999)) τ1 r3 τ3) (h4 : r3.toInt ≥ (0 : Int)) (g5 : p_208 a0 (zB + 44) (Int32.ofInt (0)) (Int32.ofInt (9)) τ3 r5 τ5) (h6 : r5.toInt ≥ (0 : Int)) (g7 : p_208 a0 (zB + 45) (Int32.ofInt (0)) (Int32.ofInt (9)) τ5 r7 τ7) (h8 : r7.toInt ≥ (0 : Int)) (g9 : p_205 a0 (zB + 46) τ7 r9 τ9) (h10 : r9.toInt ≠ (0 : Int)) (g39 : p_212 a0 τ9 r39 τ39) (h40 : r39.toInt ≥ (0 : Int)) (g41 : p_205 a0 (zB + 47) τ39 r41 τ41) (h42 : r41.toInt ≠ (0 : Int)) (g55 : p_212 a0 τ41 r55 τ55) (h56 : r55.toInt ≥ (0 : Int)) (g57 : p_189 r1 (Int32.ofInt (0)) τ55 r57 τ57) (h58 : 0 ≤ r57.toInt ∧ r57.toInt < (τ57.2.1 (q_r (τ55.1 a0 1)) : Int)) (g59 : p_189 r1 (Int32.ofInt (1)) (q_w τ57 (q_r (τ55.1 a0 1)) r57.toNatClampNeg (.int r3)) r59 τ59) (h60 : 0 ≤ r59.toInt ∧ r59.toInt < (τ59.2.1 (q_r ((q_w τ57 (q_r (τ55.1 a0 1)) r57.toNatClampNeg (.int r3)).1 a0 1)) : Int)) (g61 : p_189 r1 (Int32.ofInt (2)) (q_w τ59 (q_r ((q_w τ57 (q_r (τ55.1 a0 1)) r57.toNatClampNeg (.int r3)).1 a0 1)) r59.toNatClampNeg (.int r5)) r61 τ61) (h62 : 0 ≤ r61.toInt ∧ r61.toInt < (τ61.2.1 (q_r ((q_w τ59 (q_r ((q_w τ57 (q_r (τ55.1 a0 1)) r57.toNatClampNeg (.int r3)).1 a0 1)) r59.toNatClampNeg (.int r5)).1 a0 1)) : Int)) (g63 : p_189 r1 (Int32.ofInt (3)) (q_w τ61 (q_r ((q_w τ59 (q_r ((q_w τ57 (q_r (τ55.1 a0 1)) r57.toNatClampNeg (.int r3)).1 a0 1)) r59.toNatClampNeg (.int r5)).1 a0 1)) r61.toNatClampNeg (.int r7)) r63 τ63) (h64 : 0 ≤ r63.toInt ∧ r63.toInt < (τ63.2.1 (q_r ((q_w τ61 (q_r ((q_w τ59 (q_r ((q_w τ57 (q_r (τ55.1 a0 1)) r57.toNatClampNeg (.int r3)).1 a0 1)) r59.toNatClampNeg (.int r5)).1 a0 1)) r61.toNatClampNeg (.int r7)).1 a0 1)) : Int)) (g65 : p_213 a0 r39 r1 (q_w τ63 (q_r ((q_w τ61 (q_r ((q_w τ59 (q_r ((q_w τ57 (q_r (τ55.1 a0 1)) r57.toNatClampNeg (.int r3)).1 a0 1)) r59.toNatClampNeg (.int r5)).1 a0 1)) r61.toNatClampNeg (.int r7)).1 a0 1)) r63.toNatClampNeg (.int r55)) τ65) (h66 : 0 ≤ (Int32.ofInt (0)).toInt ∧ (Int32.ofInt (0)).toInt < (τ65.2.1 (q_r (τ65.1 a0 1)) : Int)) (h67 : 0 ≤ (Int32.ofInt (0)).toInt ∧ (Int32.ofInt (0)).toInt < (τ65.2.1 (q_r (τ65.1 a0 1)) : Int)) :
    p_214 (a0) σ (Int32.ofInt (1)) (q_w τ65 (q_r (τ65.1 a0 1)) (Int32.ofInt (0)).toNatClampNeg (.int ((q_i (τ65.1 (q_r (τ65.1 a0 1)) (Int32.ofInt (0)).toNatClampNeg)) + (Int32.ofInt (1))))) := by
  rintro rfl b B P E nf nt A ⟨H, hB, h0, hnf, h1, hnt⟩
  obtain ⟨rfl, e0⟩ := g1
  have e0 := (e0 rfl A H.w).trans h0
  rw [e0, o32 (by omega)] at h2
  obtain ⟨f1, u1⟩ := H.af g3 qsi_43 (by decide)
  rw [show (Int32.ofInt 0).toInt = 0 from rfl, show (Int32.ofInt 999).toInt = 999 from rfl] at u1
  rcases u1 with ⟨v1, P1, e1, w1, h9, H1⟩ | ⟨F, -, h9, -⟩
  case inr => exfalso; omega
  obtain ⟨f2, u2⟩ := H1.af g5 qsi_44 (by decide)
  rw [show (Int32.ofInt 0).toInt = 0 from rfl, show (Int32.ofInt 9).toInt = 9 from rfl] at u2
  rcases u2 with ⟨v2, P2, e2, w2, h9, H2⟩ | ⟨F, -, h9, -⟩
  case inr => exfalso; omega
  obtain ⟨f3, u3⟩ := H2.af g7 qsi_45 (by decide)
  rw [show (Int32.ofInt 0).toInt = 0 from rfl, show (Int32.ofInt 9).toInt = 9 from rfl] at u3
  rcases u3 with ⟨v3, P3, e3, w3, h9, H3⟩ | ⟨F, -, h9, -⟩
  case inr => exfalso; omega
  obtain ⟨f4, -, u4, -⟩ := H3.ps g9 qsi_46 (by decide)
  obtain ⟨P4, e4, H4⟩ := u4 h10
  obtain ⟨f5, u5⟩ := H4.tf g39
  rcases u5 with ⟨P5, e5, h9, H5⟩ | ⟨F, -, h9, -⟩
  case inr => exfalso; omega
  have o4 : dOh b E wHours (zBl b E P3) = .inl (zBl b E P5, r39) := by unfold dOh; rw [e4]; exact e5
  obtain ⟨f6, -, u6, -⟩ := H5.ps g41 qsi_47 (by decide)
  obtain ⟨P8, e6, H8⟩ := u6 h42
  obtain ⟨f7, u7⟩ := H8.tf g55
  rcases u7 with ⟨P9, e9, h9, G0⟩ | ⟨F, -, h9, -⟩
  case inr => exfalso; omega
  have o5 : dOh b E wWishes (zBl b E P5) = .inl (zBl b E P9, r55) := by unfold dOh; rw [e6]; exact e9
  obtain ⟨rfl, rfl⟩ := g57
  obtain ⟨rfl, rfl⟩ := g59
  obtain ⟨rfl, rfl⟩ := g61
  obtain ⟨rfl, rfl⟩ := g63
  have n6 : nf < 6 := by omega
  have K0 := G0.ww (k := 40 + 4 * nf) (v := r3)
  have K1 := K0.ww (k := 41 + 4 * nf) (v := r5)
  have K2 := K1.ww (k := 42 + 4 * nf) (v := r7)
  have K3 := K2.ww (k := 43 + 4 * nf) (v := r55)
  simp only [e0, at4_0 n6, at4_1 n6, at4_2 n6, at4_3 n6, G0.q, K0.q, K1.q, K2.q] at g65 ⊢
  obtain ⟨f9, K4⟩ := g65 rfl _ _ _ _ K3
  have i0 := K4.w.i (k := 0) (by omega)
  have z0 : (Int32.ofInt 0).toNatClampNeg = 0 := rfl
  simp only [K4.q, z0, i0]
  refine ⟨((((((((((((f1.tr f2).tr f3).tr f4).tr f5).tr f6).tr f7).tr (rDF.ww (by omega))).tr (rDF.ww (by omega))).tr (rDF.ww (by omega))).tr (rDF.ww (by omega))).tr f9.df).tr (rDF.ww (by omega))), ?_⟩
  unfold dLk
  rw [if_neg (by omega)]
  unfold dFam
  rw [e1]
  dsimp only
  rw [e2]
  dsimp only
  rw [e3]
  dsimp only
  rw [o4]
  dsimp only
  rw [o5]
  refine ⟨by decide, P9, rfl, (K4.ww (k := 0)).cg (fun k _ => ?_)⟩
  have v9 : dG (aU (aU (aU (aU A (40 + 4 * nf) r3) (41 + 4 * nf) r5) (42 + 4 * nf) r7) (43 + 4 * nf) (r55)) (r39) (Int32.ofNat nf) 0 + Int32.ofInt 1 = Int32.ofNat (nf + 1) := by
    have : dG (aU (aU (aU (aU A (40 + 4 * nf) r3) (41 + 4 * nf) r5) (42 + 4 * nf) r7) (43 + 4 * nf) (r55)) (r39) (Int32.ofNat nf) 0 = Int32.ofNat nf := by
      rw [dG_ne (by omega), aU_ne (by omega), aU_ne (by omega), aU_ne (by omega), aU_ne (by omega)]
      exact h0
    rw [this]
    exact o32i (by omega)
  rw [v9, w1, w2, w3]
  rfl
theorem sp_214_ettttftff (a0 : Nat) (σ : zSg) (τ1 : zSg) (r1 : Int32) (τ3 : zSg) (r3 : Int32) (τ5 : zSg) (r5 : Int32) (τ7 : zSg) (r7 : Int32) (τ9 : zSg) (r9 : Int32) (τ39 : zSg) (r39 : Int32) (τ41 : zSg) (r41 : Int32) (τ55 : zSg) (r55 : Int32) (g1 : p_184 a0 σ r1 τ1) (h2 : r1.toInt ≠ (6 : Int)) (g3 : p_208 a0 (zB + 43) (Int32.ofInt (0)) (Int32.ofInt (999)) τ1 r3 τ3) (h4 : r3.toInt ≥ (0 : Int)) (g5 : p_208 a0 (zB + 44) (Int32.ofInt (0)) (Int32.ofInt (9)) τ3 r5 τ5) (h6 : r5.toInt ≥ (0 : Int)) (g7 : p_208 a0 (zB + 45) (Int32.ofInt (0)) (Int32.ofInt (9)) τ5 r7 τ7) (h8 : r7.toInt ≥ (0 : Int)) (g9 : p_205 a0 (zB + 46) τ7 r9 τ9) (h10 : r9.toInt ≠ (0 : Int)) (g39 : p_212 a0 τ9 r39 τ39) (h40 : r39.toInt ≥ (0 : Int)) (g41 : p_205 a0 (zB + 47) τ39 r41 τ41) (h42 : r41.toInt ≠ (0 : Int)) (g55 : p_212 a0 τ41 r55 τ55) (h56 : r55.toInt < (0 : Int)) :
    p_214 (a0) σ (Int32.ofInt (0)) τ55 := by
  rintro rfl b B P E nf nt A ⟨H, hB, h0, hnf, h1, hnt⟩
  obtain ⟨rfl, e0⟩ := g1
  have e0 := (e0 rfl A H.w).trans h0
  rw [e0, o32 (by omega)] at h2
  obtain ⟨f1, u1⟩ := H.af g3 qsi_43 (by decide)
  rw [show (Int32.ofInt 0).toInt = 0 from rfl, show (Int32.ofInt 999).toInt = 999 from rfl] at u1
  rcases u1 with ⟨v1, P1, e1, w1, h9, H1⟩ | ⟨F, -, h9, -⟩
  case inr => exfalso; omega
  obtain ⟨f2, u2⟩ := H1.af g5 qsi_44 (by decide)
  rw [show (Int32.ofInt 0).toInt = 0 from rfl, show (Int32.ofInt 9).toInt = 9 from rfl] at u2
  rcases u2 with ⟨v2, P2, e2, w2, h9, H2⟩ | ⟨F, -, h9, -⟩
  case inr => exfalso; omega
  obtain ⟨f3, u3⟩ := H2.af g7 qsi_45 (by decide)
  rw [show (Int32.ofInt 0).toInt = 0 from rfl, show (Int32.ofInt 9).toInt = 9 from rfl] at u3
  rcases u3 with ⟨v3, P3, e3, w3, h9, H3⟩ | ⟨F, -, h9, -⟩
  case inr => exfalso; omega
  obtain ⟨f4, -, u4, -⟩ := H3.ps g9 qsi_46 (by decide)
  obtain ⟨P4, e4, H4⟩ := u4 h10
  obtain ⟨f5, u5⟩ := H4.tf g39
  rcases u5 with ⟨P5, e5, h9, H5⟩ | ⟨F, -, h9, -⟩
  case inr => exfalso; omega
  have o4 : dOh b E wHours (zBl b E P3) = .inl (zBl b E P5, r39) := by unfold dOh; rw [e4]; exact e5
  obtain ⟨f6, -, u6, -⟩ := H5.ps g41 qsi_47 (by decide)
  obtain ⟨P8, e6, H8⟩ := u6 h42
  obtain ⟨f7, u7⟩ := H8.tf g55
  rcases u7 with ⟨P', -, h9, -⟩ | ⟨F, e9, h9, t9⟩
  · exfalso; omega
  unfold dLk
  rw [if_neg (by omega)]
  unfold dFam
  rw [e1]
  dsimp only
  rw [e2]
  dsimp only
  rw [e3]
  dsimp only
  rw [o4]
  dsimp only
  unfold dOh
  rw [e6]
  dsimp only
  rw [e9]
  exact ⟨((((((f1.tr f2).tr f3).tr f4).tr f5).tr f6).tr f7), rfl, t9⟩
theorem sp_214_ettttff (a0 : Nat) (σ : zSg) (τ1 : zSg) (r1 : Int32) (τ3 : zSg) (r3 : Int32) (τ5 : zSg) (r5 : Int32) (τ7 : zSg) (r7 : Int32) (τ9 : zSg) (r9 : Int32) (τ39 : zSg) (r39 : Int32) (g1 : p_184 a0 σ r1 τ1) (h2 : r1.toInt ≠ (6 : Int)) (g3 : p_208 a0 (zB + 43) (Int32.ofInt (0)) (Int32.ofInt (999)) τ1 r3 τ3) (h4 : r3.toInt ≥ (0 : Int)) (g5 : p_208 a0 (zB + 44) (Int32.ofInt (0)) (Int32.ofInt (9)) τ3 r5 τ5) (h6 : r5.toInt ≥ (0 : Int)) (g7 : p_208 a0 (zB + 45) (Int32.ofInt (0)) (Int32.ofInt (9)) τ5 r7 τ7) (h8 : r7.toInt ≥ (0 : Int)) (g9 : p_205 a0 (zB + 46) τ7 r9 τ9) (h10 : r9.toInt ≠ (0 : Int)) (g39 : p_212 a0 τ9 r39 τ39) (h40 : r39.toInt < (0 : Int)) :
    p_214 (a0) σ (Int32.ofInt (0)) τ39 := by
  rintro rfl b B P E nf nt A ⟨H, hB, h0, hnf, h1, hnt⟩
  obtain ⟨rfl, e0⟩ := g1
  have e0 := (e0 rfl A H.w).trans h0
  rw [e0, o32 (by omega)] at h2
  obtain ⟨f1, u1⟩ := H.af g3 qsi_43 (by decide)
  rw [show (Int32.ofInt 0).toInt = 0 from rfl, show (Int32.ofInt 999).toInt = 999 from rfl] at u1
  rcases u1 with ⟨v1, P1, e1, w1, h9, H1⟩ | ⟨F, -, h9, -⟩
  case inr => exfalso; omega
  obtain ⟨f2, u2⟩ := H1.af g5 qsi_44 (by decide)
  rw [show (Int32.ofInt 0).toInt = 0 from rfl, show (Int32.ofInt 9).toInt = 9 from rfl] at u2
  rcases u2 with ⟨v2, P2, e2, w2, h9, H2⟩ | ⟨F, -, h9, -⟩
  case inr => exfalso; omega
  obtain ⟨f3, u3⟩ := H2.af g7 qsi_45 (by decide)
  rw [show (Int32.ofInt 0).toInt = 0 from rfl, show (Int32.ofInt 9).toInt = 9 from rfl] at u3
  rcases u3 with ⟨v3, P3, e3, w3, h9, H3⟩ | ⟨F, -, h9, -⟩
  case inr => exfalso; omega
  obtain ⟨f4, -, u4, -⟩ := H3.ps g9 qsi_46 (by decide)
  obtain ⟨P4, e4, H4⟩ := u4 h10
  obtain ⟨f5, u5⟩ := H4.tf g39
  rcases u5 with ⟨P', -, h9, -⟩ | ⟨F, e5, h9, t9⟩
  · exfalso; omega
  unfold dLk
  rw [if_neg (by omega)]
  unfold dFam
  rw [e1]
  dsimp only
  rw [e2]
  dsimp only
  rw [e3]
  dsimp only
  unfold dOh
  rw [e4]
  dsimp only
  rw [e5]
  exact ⟨((((f1.tr f2).tr f3).tr f4).tr f5), rfl, t9⟩
theorem sp_214_etttf (a0 : Nat) (σ : zSg) (τ1 : zSg) (r1 : Int32) (τ3 : zSg) (r3 : Int32) (τ5 : zSg) (r5 : Int32) (τ7 : zSg) (r7 : Int32) (g1 : p_184 a0 σ r1 τ1) (h2 : r1.toInt ≠ (6 : Int)) (g3 : p_208 a0 (zB + 43) (Int32.ofInt (0)) (Int32.ofInt (999)) τ1 r3 τ3) (h4 : r3.toInt ≥ (0 : Int)) (g5 : p_208 a0 (zB + 44) (Int32.ofInt (0)) (Int32.ofInt (9)) τ3 r5 τ5) (h6 : r5.toInt ≥ (0 : Int)) (g7 : p_208 a0 (zB + 45) (Int32.ofInt (0)) (Int32.ofInt (9)) τ5 r7 τ7) (h8 : r7.toInt < (0 : Int)) :
    p_214 (a0) σ (Int32.ofInt (0)) τ7 := by
  rintro rfl b B P E nf nt A ⟨H, hB, h0, hnf, h1, hnt⟩
  obtain ⟨rfl, e0⟩ := g1
  have e0 := (e0 rfl A H.w).trans h0
  rw [e0, o32 (by omega)] at h2
  obtain ⟨f1, u1⟩ := H.af g3 qsi_43 (by decide)
  rw [show (Int32.ofInt 0).toInt = 0 from rfl, show (Int32.ofInt 999).toInt = 999 from rfl] at u1
  rcases u1 with ⟨v1, P1, e1, w1, h9, H1⟩ | ⟨F, -, h9, -⟩
  case inr => exfalso; omega
  obtain ⟨f2, u2⟩ := H1.af g5 qsi_44 (by decide)
  rw [show (Int32.ofInt 0).toInt = 0 from rfl, show (Int32.ofInt 9).toInt = 9 from rfl] at u2
  rcases u2 with ⟨v2, P2, e2, w2, h9, H2⟩ | ⟨F, -, h9, -⟩
  case inr => exfalso; omega
  obtain ⟨f3, u3⟩ := H2.af g7 qsi_45 (by decide)
  rw [show (Int32.ofInt 0).toInt = 0 from rfl, show (Int32.ofInt 9).toInt = 9 from rfl] at u3
  rcases u3 with ⟨v, P', -, -, h9, -⟩ | ⟨F, e3, h9, t9⟩
  · exfalso; omega
  unfold dLk
  rw [if_neg (by omega)]
  unfold dFam
  rw [e1]
  dsimp only
  rw [e2]
  dsimp only
  rw [e3]
  exact ⟨(f1.tr f2).tr f3, rfl, t9⟩
theorem sp_214_ettf (a0 : Nat) (σ : zSg) (τ1 : zSg) (r1 : Int32) (τ3 : zSg) (r3 : Int32) (τ5 : zSg) (r5 : Int32) (g1 : p_184 a0 σ r1 τ1) (h2 : r1.toInt ≠ (6 : Int)) (g3 : p_208 a0 (zB + 43) (Int32.ofInt (0)) (Int32.ofInt (999)) τ1 r3 τ3) (h4 : r3.toInt ≥ (0 : Int)) (g5 : p_208 a0 (zB + 44) (Int32.ofInt (0)) (Int32.ofInt (9)) τ3 r5 τ5) (h6 : r5.toInt < (0 : Int)) :
    p_214 (a0) σ (Int32.ofInt (0)) τ5 := by
  rintro rfl b B P E nf nt A ⟨H, hB, h0, hnf, h1, hnt⟩
  obtain ⟨rfl, e0⟩ := g1
  have e0 := (e0 rfl A H.w).trans h0
  rw [e0, o32 (by omega)] at h2
  obtain ⟨f1, u1⟩ := H.af g3 qsi_43 (by decide)
  rw [show (Int32.ofInt 0).toInt = 0 from rfl, show (Int32.ofInt 999).toInt = 999 from rfl] at u1
  rcases u1 with ⟨v1, P1, e1, w1, h9, H1⟩ | ⟨F, -, h9, -⟩
  case inr => exfalso; omega
  obtain ⟨f2, u2⟩ := H1.af g5 qsi_44 (by decide)
  rw [show (Int32.ofInt 0).toInt = 0 from rfl, show (Int32.ofInt 9).toInt = 9 from rfl] at u2
  rcases u2 with ⟨v, P', -, -, h9, -⟩ | ⟨F, e2, h9, t9⟩
  · exfalso; omega
  unfold dLk
  rw [if_neg (by omega)]
  unfold dFam
  rw [e1]
  dsimp only
  rw [e2]
  exact ⟨f1.tr f2, rfl, t9⟩
theorem sp_214_etf (a0 : Nat) (σ : zSg) (τ1 : zSg) (r1 : Int32) (τ3 : zSg) (r3 : Int32) (g1 : p_184 a0 σ r1 τ1) (h2 : r1.toInt ≠ (6 : Int)) (g3 : p_208 a0 (zB + 43) (Int32.ofInt (0)) (Int32.ofInt (999)) τ1 r3 τ3) (h4 : r3.toInt < (0 : Int)) :
    p_214 (a0) σ (Int32.ofInt (0)) τ3 := by
  rintro rfl b B P E nf nt A ⟨H, hB, h0, hnf, h1, hnt⟩
  obtain ⟨rfl, e0⟩ := g1
  have e0 := (e0 rfl A H.w).trans h0
  rw [e0, o32 (by omega)] at h2
  obtain ⟨f1, u1⟩ := H.af g3 qsi_43 (by decide)
  rw [show (Int32.ofInt 0).toInt = 0 from rfl, show (Int32.ofInt 999).toInt = 999 from rfl] at u1
  rcases u1 with ⟨v, P', -, -, h9, -⟩ | ⟨F, e1, h9, t9⟩
  · exfalso; omega
  unfold dLk
  rw [if_neg (by omega)]
  unfold dFam
  rw [e1]
  exact ⟨f1, rfl, t9⟩
theorem sp_214_ef (a0 : Nat) (σ : zSg) (τ1 : zSg) (r1 : Int32) (g1 : p_184 a0 σ r1 τ1) (h2 : r1.toInt = (6 : Int)) :
    p_214 (a0) σ (Int32.ofInt (0)) τ1 := by
  rintro rfl b B P E nf nt A ⟨H, hB, h0, hnf, h1, hnt⟩
  obtain ⟨rfl, e0⟩ := g1
  have e0 := (e0 rfl A H.w).trans h0
  rw [e0, o32 (by omega)] at h2
  unfold dLk
  rw [if_pos (by omega)]
  exact ⟨rDF.rf, rfl, hB⟩
noncomputable def qP_214 : zPp := fun as σ o σ' => match as with
  | [a0] => ∃ r, o = .inl (some (.int r)) ∧ p_214 (q_r a0) σ r σ'
  | _ => True
set_option maxRecDepth 100000 in
theorem sp_214 {sx : zX} (S184 : zEe sx 184 1 qP_184) (S208 : zEe sx 208 4 qP_208) (S205 : zEe sx 205 2 qP_205) (S189 : zEe sx 189 2 qP_189) (S213 : zEe sx 213 3 qP_213) (S212 : zEe sx 212 1 qP_212) : zEe sx 214 1 qP_214 := by
  refine zfle zJ_214 (sps := [(184, 1, qP_184), (208, 4, qP_208), (205, 2, qP_205), (189, 2, qP_189), (213, 3, qP_213), (212, 1, qP_212)]) (fun q hq => by
    simp only [List.mem_cons, List.not_mem_nil, or_false] at hq
    rcases hq with rfl | rfl | rfl | rfl | rfl | rfl
    · exact S184
    · exact S208
    · exact S205
    · exact S189
    · exact S213
    · exact S212) (fun as σ hl => ?_)
  match as, hl with
  | [a0], _ =>
  refine ⟨[], 400, ?_, ?_⟩
  · exact fun q hq => absurd hq List.not_mem_nil
  · refine fun o1 τ1 g1 => ?_
    obtain ⟨r1, rfl, g1⟩ := g1
    refine And.intro (fun h2 => ?_) (fun h2 => ?_)
    · refine fun o3 τ3 g3 => ?_
      obtain ⟨r3, rfl, g3⟩ := g3
      refine And.intro (fun h4 => ?_) (fun h4 => ?_)
      · refine fun o5 τ5 g5 => ?_
        obtain ⟨r5, rfl, g5⟩ := g5
        refine And.intro (fun h6 => ?_) (fun h6 => ?_)
        · refine fun o7 τ7 g7 => ?_
          obtain ⟨r7, rfl, g7⟩ := g7
          refine And.intro (fun h8 => ?_) (fun h8 => ?_)
          · refine fun o9 τ9 g9 => ?_
            obtain ⟨r9, rfl, g9⟩ := g9
            refine And.intro (fun h10 => ?_) (fun h10 => ?_)
            · refine And.intro (fun _ => ?_) (fun h11 => absurd (show z_cmp 3 (Int32.ofInt (0)) 0 = false from h11) (by decide))
              refine fun o12 τ12 g12 => ?_
              obtain ⟨r12, rfl, g12⟩ := g12
              refine And.intro (fun h13 => ?_) (fun h13 => ?_)
              · refine And.intro (fun _ => ?_) (fun h14 => absurd (show z_cmp 3 (Int32.ofInt (0)) 0 = false from h14) (by decide))
                refine fun o15 τ15 g15 => ?_
                obtain ⟨r15, rfl, g15⟩ := g15
                refine fun h16 => ?_
                refine fun o17 τ17 g17 => ?_
                obtain ⟨r17, rfl, g17⟩ := g17
                refine fun h18 => ?_
                refine fun o19 τ19 g19 => ?_
                obtain ⟨r19, rfl, g19⟩ := g19
                refine fun h20 => ?_
                refine fun o21 τ21 g21 => ?_
                obtain ⟨r21, rfl, g21⟩ := g21
                refine fun h22 => ?_
                refine fun o23 τ23 g23 => ?_
                obtain ⟨rfl, g23⟩ := g23
                refine fun h24 => ?_
                refine fun h25 => ?_
                exact ⟨_, rfl, sp_214_etttttt (q_r a0) σ τ1 r1 τ3 r3 τ5 r5 τ7 r7 τ9 r9 τ12 r12 τ15 r15 τ17 r17 τ19 r19 τ21 r21 τ23 g1 (cm1t h2) g3 (cm3t h4) g5 (cm3t h6) g7 (cm3t h8) g9 (cm0t h10) g12 (cm0t h13) g15 (q_inp h16) g17 (q_inp h18) g19 (q_inp h20) g21 (q_inp h22) g23 (q_inp h24) (q_inp h25)⟩
              · refine fun o26 τ26 g26 => ?_
                obtain ⟨r26, rfl, g26⟩ := g26
                refine And.intro (fun h27 => ?_) (fun h27 => ?_)
                · refine fun o28 τ28 g28 => ?_
                  obtain ⟨r28, rfl, g28⟩ := g28
                  refine fun h29 => ?_
                  refine fun o30 τ30 g30 => ?_
                  obtain ⟨r30, rfl, g30⟩ := g30
                  refine fun h31 => ?_
                  refine fun o32 τ32 g32 => ?_
                  obtain ⟨r32, rfl, g32⟩ := g32
                  refine fun h33 => ?_
                  refine fun o34 τ34 g34 => ?_
                  obtain ⟨r34, rfl, g34⟩ := g34
                  refine fun h35 => ?_
                  refine fun o36 τ36 g36 => ?_
                  obtain ⟨rfl, g36⟩ := g36
                  refine fun h37 => ?_
                  refine fun h38 => ?_
                  exact ⟨_, rfl, sp_214_etttttft (q_r a0) σ τ1 r1 τ3 r3 τ5 r5 τ7 r7 τ9 r9 τ12 r12 τ26 r26 τ28 r28 τ30 r30 τ32 r32 τ34 r34 τ36 g1 (cm1t h2) g3 (cm3t h4) g5 (cm3t h6) g7 (cm3t h8) g9 (cm0t h10) g12 (cm0f h13) g26 (cm3t h27) g28 (q_inp h29) g30 (q_inp h31) g32 (q_inp h33) g34 (q_inp h35) g36 (q_inp h37) (q_inp h38)⟩
                · exact ⟨_, rfl, sp_214_etttttff (q_r a0) σ τ1 r1 τ3 r3 τ5 r5 τ7 r7 τ9 r9 τ12 r12 τ26 r26 g1 (cm1t h2) g3 (cm3t h4) g5 (cm3t h6) g7 (cm3t h8) g9 (cm0t h10) g12 (cm0f h13) g26 (cm3f h27)⟩
            · refine fun o39 τ39 g39 => ?_
              obtain ⟨r39, rfl, g39⟩ := g39
              refine And.intro (fun h40 => ?_) (fun h40 => ?_)
              · refine fun o41 τ41 g41 => ?_
                obtain ⟨r41, rfl, g41⟩ := g41
                refine And.intro (fun h42 => ?_) (fun h42 => ?_)
                · refine And.intro (fun _ => ?_) (fun h43 => absurd (show z_cmp 3 (Int32.ofInt (0)) 0 = false from h43) (by decide))
                  refine fun o44 τ44 g44 => ?_
                  obtain ⟨r44, rfl, g44⟩ := g44
                  refine fun h45 => ?_
                  refine fun o46 τ46 g46 => ?_
                  obtain ⟨r46, rfl, g46⟩ := g46
                  refine fun h47 => ?_
                  refine fun o48 τ48 g48 => ?_
                  obtain ⟨r48, rfl, g48⟩ := g48
                  refine fun h49 => ?_
                  refine fun o50 τ50 g50 => ?_
                  obtain ⟨r50, rfl, g50⟩ := g50
                  refine fun h51 => ?_
                  refine fun o52 τ52 g52 => ?_
                  obtain ⟨rfl, g52⟩ := g52
                  refine fun h53 => ?_
                  refine fun h54 => ?_
                  exact ⟨_, rfl, sp_214_ettttftt (q_r a0) σ τ1 r1 τ3 r3 τ5 r5 τ7 r7 τ9 r9 τ39 r39 τ41 r41 τ44 r44 τ46 r46 τ48 r48 τ50 r50 τ52 g1 (cm1t h2) g3 (cm3t h4) g5 (cm3t h6) g7 (cm3t h8) g9 (cm0f h10) g39 (cm3t h40) g41 (cm0t h42) g44 (q_inp h45) g46 (q_inp h47) g48 (q_inp h49) g50 (q_inp h51) g52 (q_inp h53) (q_inp h54)⟩
                · refine fun o55 τ55 g55 => ?_
                  obtain ⟨r55, rfl, g55⟩ := g55
                  refine And.intro (fun h56 => ?_) (fun h56 => ?_)
                  · refine fun o57 τ57 g57 => ?_
                    obtain ⟨r57, rfl, g57⟩ := g57
                    refine fun h58 => ?_
                    refine fun o59 τ59 g59 => ?_
                    obtain ⟨r59, rfl, g59⟩ := g59
                    refine fun h60 => ?_
                    refine fun o61 τ61 g61 => ?_
                    obtain ⟨r61, rfl, g61⟩ := g61
                    refine fun h62 => ?_
                    refine fun o63 τ63 g63 => ?_
                    obtain ⟨r63, rfl, g63⟩ := g63
                    refine fun h64 => ?_
                    refine fun o65 τ65 g65 => ?_
                    obtain ⟨rfl, g65⟩ := g65
                    refine fun h66 => ?_
                    refine fun h67 => ?_
                    exact ⟨_, rfl, sp_214_ettttftft (q_r a0) σ τ1 r1 τ3 r3 τ5 r5 τ7 r7 τ9 r9 τ39 r39 τ41 r41 τ55 r55 τ57 r57 τ59 r59 τ61 r61 τ63 r63 τ65 g1 (cm1t h2) g3 (cm3t h4) g5 (cm3t h6) g7 (cm3t h8) g9 (cm0f h10) g39 (cm3t h40) g41 (cm0f h42) g55 (cm3t h56) g57 (q_inp h58) g59 (q_inp h60) g61 (q_inp h62) g63 (q_inp h64) g65 (q_inp h66) (q_inp h67)⟩
                  · exact ⟨_, rfl, sp_214_ettttftff (q_r a0) σ τ1 r1 τ3 r3 τ5 r5 τ7 r7 τ9 r9 τ39 r39 τ41 r41 τ55 r55 g1 (cm1t h2) g3 (cm3t h4) g5 (cm3t h6) g7 (cm3t h8) g9 (cm0f h10) g39 (cm3t h40) g41 (cm0f h42) g55 (cm3f h56)⟩
              · exact ⟨_, rfl, sp_214_ettttff (q_r a0) σ τ1 r1 τ3 r3 τ5 r5 τ7 r7 τ9 r9 τ39 r39 g1 (cm1t h2) g3 (cm3t h4) g5 (cm3t h6) g7 (cm3t h8) g9 (cm0f h10) g39 (cm3f h40)⟩
          · exact ⟨_, rfl, sp_214_etttf (q_r a0) σ τ1 r1 τ3 r3 τ5 r5 τ7 r7 g1 (cm1t h2) g3 (cm3t h4) g5 (cm3t h6) g7 (cm3f h8)⟩
        · refine And.intro (fun h68 => absurd (show z_cmp 3 (Int32.ofInt (-1)) 0 = true from h68) (by decide)) (fun _ => ?_)
          exact ⟨_, rfl, sp_214_ettf (q_r a0) σ τ1 r1 τ3 r3 τ5 r5 g1 (cm1t h2) g3 (cm3t h4) g5 (cm3f h6)⟩
      · refine And.intro (fun h69 => absurd (show z_cmp 3 (Int32.ofInt (-1)) 0 = true from h69) (by decide)) (fun _ => ?_)
        refine And.intro (fun h70 => absurd (show z_cmp 3 (Int32.ofInt (-1)) 0 = true from h70) (by decide)) (fun _ => ?_)
        exact ⟨_, rfl, sp_214_etf (q_r a0) σ τ1 r1 τ3 r3 g1 (cm1t h2) g3 (cm3f h4)⟩
    · exact ⟨_, rfl, sp_214_ef (q_r a0) σ τ1 r1 g1 (cm1f h2)⟩
theorem zJ_219 : zJ3 219 z_m219 z_c219 z_h219 := ⟨rfl, rfl, rfl⟩
noncomputable def p_219 (a : Nat) (σ : zSg) (r : Int32) (σ' : zSg) : Prop := a = 205 → ∀ b B P E nf nt A, rL σ b B P E nf nt A → rDF σ σ' ∧ rOL σ' b E nf nt A r (dLk b E nf nt B (zBl b E P) 3)
theorem sp_219_etttt (a0 : Nat) (σ : zSg) (τ1 : zSg) (r1 : Int32) (τ3 : zSg) (r3 : Int32) (τ5 : zSg) (r5 : Int32) (τ7 : zSg) (r7 : Int32) (τ9 : zSg) (r9 : Int32) (τ11 : zSg) (r11 : Int32) (τ12 : zSg) (r12 : Int32) (g1 : p_185 a0 σ r1 τ1) (h2 : r1.toInt ≠ (8 : Int)) (g3 : p_215 a0 τ1 r3 τ3) (h4 : r3.toInt ≥ (0 : Int)) (g5 : p_208 a0 (zB + 48) (Int32.ofInt (1)) (Int32.ofInt (9)) τ3 r5 τ5) (h6 : r5.toInt ≥ (0 : Int)) (g7 : p_192 r1 (Int32.ofInt (0)) τ5 r7 τ7) (h8 : 0 ≤ r7.toInt ∧ r7.toInt < (τ7.2.1 (q_r (τ5.1 a0 1)) : Int)) (g9 : p_192 r1 (Int32.ofInt (1)) (q_w τ7 (q_r (τ5.1 a0 1)) r7.toNatClampNeg (.int r3)) r9 τ9) (h10 : 0 ≤ r9.toInt ∧ r9.toInt < (τ9.2.1 (q_r ((q_w τ7 (q_r (τ5.1 a0 1)) r7.toNatClampNeg (.int r3)).1 a0 1)) : Int)) (g11 : p_192 r1 (Int32.ofInt (2)) (q_w τ9 (q_r ((q_w τ7 (q_r (τ5.1 a0 1)) r7.toNatClampNeg (.int r3)).1 a0 1)) r9.toNatClampNeg (.int r5)) r11 τ11) (g12 : p_205 a0 (zB + 49) τ11 r12 τ12) (h13 : r12.toInt = (0 : Int)) (h14 : 0 ≤ r11.toInt ∧ r11.toInt < (τ12.2.1 (q_r ((q_w τ9 (q_r ((q_w τ7 (q_r (τ5.1 a0 1)) r7.toNatClampNeg (.int r3)).1 a0 1)) r9.toNatClampNeg (.int r5)).1 a0 1)) : Int)) (h15 : 0 ≤ (Int32.ofInt (1)).toInt ∧ (Int32.ofInt (1)).toInt < ((q_w τ12 (q_r ((q_w τ9 (q_r ((q_w τ7 (q_r (τ5.1 a0 1)) r7.toNatClampNeg (.int r3)).1 a0 1)) r9.toNatClampNeg (.int r5)).1 a0 1)) r11.toNatClampNeg (.int (Int32.ofInt (0)))).2.1 (q_r ((q_w τ12 (q_r ((q_w τ9 (q_r ((q_w τ7 (q_r (τ5.1 a0 1)) r7.toNatClampNeg (.int r3)).1 a0 1)) r9.toNatClampNeg (.int r5)).1 a0 1)) r11.toNatClampNeg (.int (Int32.ofInt (0)))).1 a0 1)) : Int)) (h16 : 0 ≤ (Int32.ofInt (1)).toInt ∧ (Int32.ofInt (1)).toInt < ((q_w τ12 (q_r ((q_w τ9 (q_r ((q_w τ7 (q_r (τ5.1 a0 1)) r7.toNatClampNeg (.int r3)).1 a0 1)) r9.toNatClampNeg (.int r5)).1 a0 1)) r11.toNatClampNeg (.int (Int32.ofInt (0)))).2.1 (q_r ((q_w τ12 (q_r ((q_w τ9 (q_r ((q_w τ7 (q_r (τ5.1 a0 1)) r7.toNatClampNeg (.int r3)).1 a0 1)) r9.toNatClampNeg (.int r5)).1 a0 1)) r11.toNatClampNeg (.int (Int32.ofInt (0)))).1 a0 1)) : Int)) :
    p_219 (a0) σ (Int32.ofInt (1)) (q_w (q_w τ12 (q_r ((q_w τ9 (q_r ((q_w τ7 (q_r (τ5.1 a0 1)) r7.toNatClampNeg (.int r3)).1 a0 1)) r9.toNatClampNeg (.int r5)).1 a0 1)) r11.toNatClampNeg (.int (Int32.ofInt (0)))) (q_r ((q_w τ12 (q_r ((q_w τ9 (q_r ((q_w τ7 (q_r (τ5.1 a0 1)) r7.toNatClampNeg (.int r3)).1 a0 1)) r9.toNatClampNeg (.int r5)).1 a0 1)) r11.toNatClampNeg (.int (Int32.ofInt (0)))).1 a0 1)) (Int32.ofInt (1)).toNatClampNeg (.int ((q_i ((q_w τ12 (q_r ((q_w τ9 (q_r ((q_w τ7 (q_r (τ5.1 a0 1)) r7.toNatClampNeg (.int r3)).1 a0 1)) r9.toNatClampNeg (.int r5)).1 a0 1)) r11.toNatClampNeg (.int (Int32.ofInt (0)))).1 (q_r ((q_w τ12 (q_r ((q_w τ9 (q_r ((q_w τ7 (q_r (τ5.1 a0 1)) r7.toNatClampNeg (.int r3)).1 a0 1)) r9.toNatClampNeg (.int r5)).1 a0 1)) r11.toNatClampNeg (.int (Int32.ofInt (0)))).1 a0 1)) (Int32.ofInt (1)).toNatClampNeg)) + (Int32.ofInt (1))))) := by
  rintro rfl b B P E nf nt A ⟨H, hB, h0, hnf, h1, hnt⟩
  obtain ⟨rfl, e0⟩ := g1
  have e0 := (e0 rfl A H.w).trans h1
  rw [e0, o32 (by omega)] at h2
  obtain ⟨f1, u⟩ := g3 rfl b P E A nf H h0 hnf
  rcases u with ⟨v, A1, t, w2, h9, hv, P1, rfl, H1⟩ | ⟨t, h8, h9⟩
  case inr => exfalso; omega
  obtain ⟨f2, u2⟩ := H1.af g5 qsi_48 (by decide)
  rw [show (Int32.ofInt 1).toInt = 1 from rfl, show (Int32.ofInt 9).toInt = 9 from rfl] at u2
  rcases u2 with ⟨v2, P2, e2, w3, h9, H2⟩ | ⟨F, -, h9, -⟩
  case inr => exfalso; omega
  obtain ⟨rfl, rfl⟩ := g7
  obtain ⟨rfl, rfl⟩ := g9
  obtain ⟨rfl, rfl⟩ := g11
  have n8 : nt < 8 := by omega
  have K0 := H2.ww (k := 64 + 3 * nt) (v := r3)
  have K1 := K0.ww (k := 65 + 3 * nt) (v := r5)
  simp only [e0, at3_0 n8, at3_1 n8, at3_2 n8, H2.q, K0.q] at g12 ⊢
  obtain ⟨f3, -, uy, un⟩ := K1.ps g12 qsi_49 (by decide)
  have k1q := K1.q
  obtain ⟨e3, K2⟩ := un h13
  have K3 := K2.ww (k := 66 + 3 * nt) (v := Int32.ofInt 0)
  have z1 : (Int32.ofInt 1).toNatClampNeg = 1 := rfl
  have i1 := K3.w.i (k := 1) (by omega)
  simp only [k1q, K3.q, z1, i1]
  refine ⟨(((((f1.tr f2).tr (rDF.ww (by omega))).tr (rDF.ww (by omega))).tr f3).tr (rDF.ww (by omega))).tr (rDF.ww (by omega)), ?_⟩
  rw [dLk_3, if_neg (by omega)]
  unfold dTh
  rw [t]
  dsimp only
  rw [e2]
  dsimp only
  rw [e3]
  refine ⟨by decide, zBl b E P2, zBl_bl, (K3.ww (k := 1)).cg (fun k _ => ?_)⟩
  have v9 : aU (aU (aU A (64 + 3 * nt) r3) (65 + 3 * nt) r5) (66 + 3 * nt) (Int32.ofInt 0) 1 + Int32.ofInt 1 = Int32.ofNat (nt + 1) := by
    have : aU (aU (aU A (64 + 3 * nt) r3) (65 + 3 * nt) r5) (66 + 3 * nt) (Int32.ofInt 0) 1 = Int32.ofNat nt := by
      rw [aU_ne (by omega), aU_ne (by omega), aU_ne (by omega)]
      exact h1
    rw [this]
    exact o32i (by omega)
  rw [v9, w2, w3]
  rfl
theorem sp_219_etttf (a0 : Nat) (σ : zSg) (τ1 : zSg) (r1 : Int32) (τ3 : zSg) (r3 : Int32) (τ5 : zSg) (r5 : Int32) (τ7 : zSg) (r7 : Int32) (τ9 : zSg) (r9 : Int32) (τ11 : zSg) (r11 : Int32) (τ12 : zSg) (r12 : Int32) (g1 : p_185 a0 σ r1 τ1) (h2 : r1.toInt ≠ (8 : Int)) (g3 : p_215 a0 τ1 r3 τ3) (h4 : r3.toInt ≥ (0 : Int)) (g5 : p_208 a0 (zB + 48) (Int32.ofInt (1)) (Int32.ofInt (9)) τ3 r5 τ5) (h6 : r5.toInt ≥ (0 : Int)) (g7 : p_192 r1 (Int32.ofInt (0)) τ5 r7 τ7) (h8 : 0 ≤ r7.toInt ∧ r7.toInt < (τ7.2.1 (q_r (τ5.1 a0 1)) : Int)) (g9 : p_192 r1 (Int32.ofInt (1)) (q_w τ7 (q_r (τ5.1 a0 1)) r7.toNatClampNeg (.int r3)) r9 τ9) (h10 : 0 ≤ r9.toInt ∧ r9.toInt < (τ9.2.1 (q_r ((q_w τ7 (q_r (τ5.1 a0 1)) r7.toNatClampNeg (.int r3)).1 a0 1)) : Int)) (g11 : p_192 r1 (Int32.ofInt (2)) (q_w τ9 (q_r ((q_w τ7 (q_r (τ5.1 a0 1)) r7.toNatClampNeg (.int r3)).1 a0 1)) r9.toNatClampNeg (.int r5)) r11 τ11) (g12 : p_205 a0 (zB + 49) τ11 r12 τ12) (h13 : r12.toInt ≠ (0 : Int)) (h17 : 0 ≤ r11.toInt ∧ r11.toInt < (τ12.2.1 (q_r ((q_w τ9 (q_r ((q_w τ7 (q_r (τ5.1 a0 1)) r7.toNatClampNeg (.int r3)).1 a0 1)) r9.toNatClampNeg (.int r5)).1 a0 1)) : Int)) (h18 : 0 ≤ (Int32.ofInt (1)).toInt ∧ (Int32.ofInt (1)).toInt < ((q_w τ12 (q_r ((q_w τ9 (q_r ((q_w τ7 (q_r (τ5.1 a0 1)) r7.toNatClampNeg (.int r3)).1 a0 1)) r9.toNatClampNeg (.int r5)).1 a0 1)) r11.toNatClampNeg (.int (Int32.ofInt (1)))).2.1 (q_r ((q_w τ12 (q_r ((q_w τ9 (q_r ((q_w τ7 (q_r (τ5.1 a0 1)) r7.toNatClampNeg (.int r3)).1 a0 1)) r9.toNatClampNeg (.int r5)).1 a0 1)) r11.toNatClampNeg (.int (Int32.ofInt (1)))).1 a0 1)) : Int)) (h19 : 0 ≤ (Int32.ofInt (1)).toInt ∧ (Int32.ofInt (1)).toInt < ((q_w τ12 (q_r ((q_w τ9 (q_r ((q_w τ7 (q_r (τ5.1 a0 1)) r7.toNatClampNeg (.int r3)).1 a0 1)) r9.toNatClampNeg (.int r5)).1 a0 1)) r11.toNatClampNeg (.int (Int32.ofInt (1)))).2.1 (q_r ((q_w τ12 (q_r ((q_w τ9 (q_r ((q_w τ7 (q_r (τ5.1 a0 1)) r7.toNatClampNeg (.int r3)).1 a0 1)) r9.toNatClampNeg (.int r5)).1 a0 1)) r11.toNatClampNeg (.int (Int32.ofInt (1)))).1 a0 1)) : Int)) :
    p_219 (a0) σ (Int32.ofInt (1)) (q_w (q_w τ12 (q_r ((q_w τ9 (q_r ((q_w τ7 (q_r (τ5.1 a0 1)) r7.toNatClampNeg (.int r3)).1 a0 1)) r9.toNatClampNeg (.int r5)).1 a0 1)) r11.toNatClampNeg (.int (Int32.ofInt (1)))) (q_r ((q_w τ12 (q_r ((q_w τ9 (q_r ((q_w τ7 (q_r (τ5.1 a0 1)) r7.toNatClampNeg (.int r3)).1 a0 1)) r9.toNatClampNeg (.int r5)).1 a0 1)) r11.toNatClampNeg (.int (Int32.ofInt (1)))).1 a0 1)) (Int32.ofInt (1)).toNatClampNeg (.int ((q_i ((q_w τ12 (q_r ((q_w τ9 (q_r ((q_w τ7 (q_r (τ5.1 a0 1)) r7.toNatClampNeg (.int r3)).1 a0 1)) r9.toNatClampNeg (.int r5)).1 a0 1)) r11.toNatClampNeg (.int (Int32.ofInt (1)))).1 (q_r ((q_w τ12 (q_r ((q_w τ9 (q_r ((q_w τ7 (q_r (τ5.1 a0 1)) r7.toNatClampNeg (.int r3)).1 a0 1)) r9.toNatClampNeg (.int r5)).1 a0 1)) r11.toNatClampNeg (.int (Int32.ofInt (1)))).1 a0 1)) (Int32.ofInt (1)).toNatClampNeg)) + (Int32.ofInt (1))))) := by
  rintro rfl b B P E nf nt A ⟨H, hB, h0, hnf, h1, hnt⟩
  obtain ⟨rfl, e0⟩ := g1
  have e0 := (e0 rfl A H.w).trans h1
  rw [e0, o32 (by omega)] at h2
  obtain ⟨f1, u⟩ := g3 rfl b P E A nf H h0 hnf
  rcases u with ⟨v, A1, t, w2, h9, hv, P1, rfl, H1⟩ | ⟨t, h8, h9⟩
  case inr => exfalso; omega
  obtain ⟨f2, u2⟩ := H1.af g5 qsi_48 (by decide)
  rw [show (Int32.ofInt 1).toInt = 1 from rfl, show (Int32.ofInt 9).toInt = 9 from rfl] at u2
  rcases u2 with ⟨v2, P2, e2, w3, h9, H2⟩ | ⟨F, -, h9, -⟩
  case inr => exfalso; omega
  obtain ⟨rfl, rfl⟩ := g7
  obtain ⟨rfl, rfl⟩ := g9
  obtain ⟨rfl, rfl⟩ := g11
  have n8 : nt < 8 := by omega
  have K0 := H2.ww (k := 64 + 3 * nt) (v := r3)
  have K1 := K0.ww (k := 65 + 3 * nt) (v := r5)
  simp only [e0, at3_0 n8, at3_1 n8, at3_2 n8, H2.q, K0.q] at g12 ⊢
  obtain ⟨f3, -, uy, un⟩ := K1.ps g12 qsi_49 (by decide)
  have k1q := K1.q
  obtain ⟨P3, e3, K2⟩ := uy h13
  have K3 := K2.ww (k := 66 + 3 * nt) (v := Int32.ofInt 1)
  have z1 : (Int32.ofInt 1).toNatClampNeg = 1 := rfl
  have i1 := K3.w.i (k := 1) (by omega)
  simp only [k1q, K3.q, z1, i1]
  refine ⟨(((((f1.tr f2).tr (rDF.ww (by omega))).tr (rDF.ww (by omega))).tr f3).tr (rDF.ww (by omega))).tr (rDF.ww (by omega)), ?_⟩
  rw [dLk_3, if_neg (by omega)]
  unfold dTh
  rw [t]
  dsimp only
  rw [e2]
  dsimp only
  rw [e3]
  refine ⟨by decide, P3, rfl, (K3.ww (k := 1)).cg (fun k _ => ?_)⟩
  have v9 : aU (aU (aU A (64 + 3 * nt) r3) (65 + 3 * nt) r5) (66 + 3 * nt) (Int32.ofInt 1) 1 + Int32.ofInt 1 = Int32.ofNat (nt + 1) := by
    have : aU (aU (aU A (64 + 3 * nt) r3) (65 + 3 * nt) r5) (66 + 3 * nt) (Int32.ofInt 1) 1 = Int32.ofNat nt := by
      rw [aU_ne (by omega), aU_ne (by omega), aU_ne (by omega)]
      exact h1
    rw [this]
    exact o32i (by omega)
  rw [v9, w2, w3]
  rfl
theorem sp_219_ettf (a0 : Nat) (σ : zSg) (τ1 : zSg) (r1 : Int32) (τ3 : zSg) (r3 : Int32) (τ5 : zSg) (r5 : Int32) (g1 : p_185 a0 σ r1 τ1) (h2 : r1.toInt ≠ (8 : Int)) (g3 : p_215 a0 τ1 r3 τ3) (h4 : r3.toInt ≥ (0 : Int)) (g5 : p_208 a0 (zB + 48) (Int32.ofInt (1)) (Int32.ofInt (9)) τ3 r5 τ5) (h6 : r5.toInt < (0 : Int)) :
    p_219 (a0) σ (Int32.ofInt (0)) τ5 := by
  rintro rfl b B P E nf nt A ⟨H, hB, h0, hnf, h1, hnt⟩
  obtain ⟨rfl, e0⟩ := g1
  have e0 := (e0 rfl A H.w).trans h1
  rw [e0, o32 (by omega)] at h2
  obtain ⟨f1, u⟩ := g3 rfl b P E A nf H h0 hnf
  rcases u with ⟨v, A1, t, w2, h9, hv, P1, rfl, H1⟩ | ⟨t, h8, h9⟩
  case inr => exfalso; omega
  obtain ⟨f2, u2⟩ := H1.af g5 qsi_48 (by decide)
  rw [show (Int32.ofInt 1).toInt = 1 from rfl, show (Int32.ofInt 9).toInt = 9 from rfl] at u2
  rcases u2 with ⟨v, P', -, -, h9, -⟩ | ⟨F, e2, h9, t9⟩
  · exfalso; omega
  rw [dLk_3, if_neg (by omega)]
  unfold dTh
  rw [t]
  dsimp only
  rw [e2]
  exact ⟨f1.tr f2, rfl, t9⟩
theorem sp_219_etf (a0 : Nat) (σ : zSg) (τ1 : zSg) (r1 : Int32) (τ3 : zSg) (r3 : Int32) (g1 : p_185 a0 σ r1 τ1) (h2 : r1.toInt ≠ (8 : Int)) (g3 : p_215 a0 τ1 r3 τ3) (h4 : r3.toInt < (0 : Int)) :
    p_219 (a0) σ (Int32.ofInt (0)) τ3 := by
  rintro rfl b B P E nf nt A ⟨H, hB, h0, hnf, h1, hnt⟩
  obtain ⟨rfl, e0⟩ := g1
  have e0 := (e0 rfl A H.w).trans h1
  rw [e0, o32 (by omega)] at h2
  obtain ⟨f1, u⟩ := g3 rfl b P E A nf H h0 hnf
  rcases u with ⟨v, A1, t, -, h9, -⟩ | ⟨t, h8, h9⟩
  · exfalso; omega
  rw [dLk_3, if_neg (by omega)]
  unfold dTh
  rw [t]
  exact ⟨f1, rfl, h9⟩
theorem sp_219_ef (a0 : Nat) (σ : zSg) (τ1 : zSg) (r1 : Int32) (g1 : p_185 a0 σ r1 τ1) (h2 : r1.toInt = (8 : Int)) :
    p_219 (a0) σ (Int32.ofInt (0)) τ1 := by
  rintro rfl b B P E nf nt A ⟨H, hB, h0, hnf, h1, hnt⟩
  obtain ⟨rfl, e0⟩ := g1
  have e0 := (e0 rfl A H.w).trans h1
  rw [e0, o32 (by omega)] at h2
  rw [dLk_3, if_pos (by omega)]
  exact ⟨rDF.rf, rfl, hB⟩
noncomputable def qP_219 : zPp := fun as σ o σ' => match as with
  | [a0] => ∃ r, o = .inl (some (.int r)) ∧ p_219 (q_r a0) σ r σ'
  | _ => True
set_option maxRecDepth 100000 in
theorem sp_219 {sx : zX} (S185 : zEe sx 185 1 qP_185) (S215 : zEe sx 215 1 qP_215) (S208 : zEe sx 208 4 qP_208) (S192 : zEe sx 192 2 qP_192) (S205 : zEe sx 205 2 qP_205) : zEe sx 219 1 qP_219 := by
  refine zfle zJ_219 (sps := [(185, 1, qP_185), (215, 1, qP_215), (208, 4, qP_208), (192, 2, qP_192), (205, 2, qP_205)]) (fun q hq => by
    simp only [List.mem_cons, List.not_mem_nil, or_false] at hq
    rcases hq with rfl | rfl | rfl | rfl | rfl
    · exact S185
    · exact S215
    · exact S208
    · exact S192
    · exact S205) (fun as σ hl => ?_)
  match as, hl with
  | [a0], _ =>
  refine ⟨[], 400, ?_, ?_⟩
  · exact fun q hq => absurd hq List.not_mem_nil
  · refine fun o1 τ1 g1 => ?_
    obtain ⟨r1, rfl, g1⟩ := g1
    refine And.intro (fun h2 => ?_) (fun h2 => ?_)
    · refine fun o3 τ3 g3 => ?_
      obtain ⟨r3, rfl, g3⟩ := g3
      refine And.intro (fun h4 => ?_) (fun h4 => ?_)
      · refine fun o5 τ5 g5 => ?_
        obtain ⟨r5, rfl, g5⟩ := g5
        refine And.intro (fun h6 => ?_) (fun h6 => ?_)
        · refine fun o7 τ7 g7 => ?_
          obtain ⟨r7, rfl, g7⟩ := g7
          refine fun h8 => ?_
          refine fun o9 τ9 g9 => ?_
          obtain ⟨r9, rfl, g9⟩ := g9
          refine fun h10 => ?_
          refine fun o11 τ11 g11 => ?_
          obtain ⟨r11, rfl, g11⟩ := g11
          refine fun o12 τ12 g12 => ?_
          obtain ⟨r12, rfl, g12⟩ := g12
          refine And.intro (fun h13 => ?_) (fun h13 => ?_)
          · refine fun h14 => ?_
            refine fun h15 => ?_
            refine fun h16 => ?_
            exact ⟨_, rfl, sp_219_etttt (q_r a0) σ τ1 r1 τ3 r3 τ5 r5 τ7 r7 τ9 r9 τ11 r11 τ12 r12 g1 (cm1t h2) g3 (cm3t h4) g5 (cm3t h6) g7 (q_inp h8) g9 (q_inp h10) g11 g12 (cm0t h13) (q_inp h14) (q_inp h15) (q_inp h16)⟩
          · refine fun h17 => ?_
            refine fun h18 => ?_
            refine fun h19 => ?_
            exact ⟨_, rfl, sp_219_etttf (q_r a0) σ τ1 r1 τ3 r3 τ5 r5 τ7 r7 τ9 r9 τ11 r11 τ12 r12 g1 (cm1t h2) g3 (cm3t h4) g5 (cm3t h6) g7 (q_inp h8) g9 (q_inp h10) g11 g12 (cm0f h13) (q_inp h17) (q_inp h18) (q_inp h19)⟩
        · exact ⟨_, rfl, sp_219_ettf (q_r a0) σ τ1 r1 τ3 r3 τ5 r5 g1 (cm1t h2) g3 (cm3t h4) g5 (cm3f h6)⟩
      · refine And.intro (fun h20 => absurd (show z_cmp 3 (Int32.ofInt (-1)) 0 = true from h20) (by decide)) (fun _ => ?_)
        exact ⟨_, rfl, sp_219_etf (q_r a0) σ τ1 r1 τ3 r3 g1 (cm1t h2) g3 (cm3f h4)⟩
    · exact ⟨_, rfl, sp_219_ef (q_r a0) σ τ1 r1 g1 (cm1f h2)⟩
theorem zJ_220 : zJ3 220 z_m220 z_c220 z_h220 := ⟨rfl, rfl, rfl⟩
noncomputable def p_220 (a : Nat) (σ : zSg) (r : Int32) (σ' : zSg) : Prop := a = 205 → ∀ b B E nf nt A, rL σ b B (zLt b E B) E nf nt A → rDF σ σ' ∧ rOL σ' b E nf nt A r (dLine b E nf nt B)
theorem sp_220_etttttttttt (a0 : Nat) (σ : zSg) (τ1 : zSg) (r1 : Int32) (τ3 : zSg) (r3 : Int32) (τ5 : zSg) (r5 : Int32) (τ7 : zSg) (r7 : Int32) (τ9 : zSg) (r9 : Int32) (τ11 : zSg) (r11 : Int32) (τ13 : zSg) (r13 : Int32) (τ15 : zSg) (r15 : Int32) (τ17 : zSg) (r17 : Int32) (τ19 : zSg) (r19 : Int32) (g1 : p_204 a0 (zB + 50) σ r1 τ1) (h2 : r1.toInt = (0 : Int)) (g3 : p_204 a0 (zB + 46) τ1 r3 τ3) (h4 : r3.toInt = (0 : Int)) (g5 : p_204 a0 (zB + 51) τ3 r5 τ5) (h6 : r5.toInt = (0 : Int)) (g7 : p_204 a0 (zB + 52) τ5 r7 τ7) (h8 : r7.toInt = (0 : Int)) (g9 : p_204 a0 (zB + 47) τ7 r9 τ9) (h10 : r9.toInt = (0 : Int)) (g11 : p_204 a0 (zB + 53) τ9 r11 τ11) (h12 : r11.toInt = (0 : Int)) (g13 : p_204 a0 (zB + 54) τ11 r13 τ13) (h14 : r13.toInt = (0 : Int)) (g15 : p_204 a0 (zB + 55) τ13 r15 τ15) (h16 : r15.toInt = (0 : Int)) (g17 : p_204 a0 (zB + 56) τ15 r17 τ17) (h18 : r17.toInt = (0 : Int)) (g19 : p_204 a0 (zB + 57) τ17 r19 τ19) (h20 : r19.toInt = (0 : Int)) :
    p_220 (a0) σ (Int32.ofInt (0)) τ19 := by
  rintro rfl b B E nf nt A ⟨H, hB, h0, hnf, h1, hnt⟩
  obtain ⟨rfl, u0, v0⟩ := H.wd hB g1 qsi_50 (by decide)
  obtain ⟨rfl, u1, v1⟩ := H.wd hB g3 qsi_46 (by decide)
  obtain ⟨rfl, u2, v2⟩ := H.wd hB g5 qsi_51 (by decide)
  obtain ⟨rfl, u3, v3⟩ := H.wd hB g7 qsi_52 (by decide)
  obtain ⟨rfl, u4, v4⟩ := H.wd hB g9 qsi_47 (by decide)
  obtain ⟨rfl, u5, v5⟩ := H.wd hB g11 qsi_53 (by decide)
  obtain ⟨rfl, u6, v6⟩ := H.wd hB g13 qsi_54 (by decide)
  obtain ⟨rfl, u7, v7⟩ := H.wd hB g15 qsi_55 (by decide)
  obtain ⟨rfl, u8, v8⟩ := H.wd hB g17 qsi_56 (by decide)
  obtain ⟨rfl, u9, v9⟩ := H.wd hB g19 qsi_57 (by decide)
  have e0 := v0 h2
  have e1 := v1 h4
  have e2 := v2 h6
  have e3 := v3 h8
  have e4 := v4 h10
  have e5 := v5 h12
  have e6 := v6 h14
  have e7 := v7 h16
  have e8 := v8 h18
  have e9 := v9 h20
  have e : dLine b E nf nt B = .inr B := dLine_no (fun s hs => by
    simp only [dWs, List.mem_cons, List.not_mem_nil, or_false] at hs
    rcases hs with rfl | rfl | rfl | rfl | rfl | rfl | rfl | rfl | rfl | rfl
    · exact e0
    · exact e1
    · exact e2
    · exact e3
    · exact e4
    · exact e5
    · exact e6
    · exact e7
    · exact e8
    · exact e9)
  rw [e]
  exact ⟨rDF.rf, rfl, hB⟩
theorem sp_220_etttttttttft (a0 : Nat) (σ : zSg) (τ1 : zSg) (r1 : Int32) (τ3 : zSg) (r3 : Int32) (τ5 : zSg) (r5 : Int32) (τ7 : zSg) (r7 : Int32) (τ9 : zSg) (r9 : Int32) (τ11 : zSg) (r11 : Int32) (τ13 : zSg) (r13 : Int32) (τ15 : zSg) (r15 : Int32) (τ17 : zSg) (r17 : Int32) (τ19 : zSg) (r19 : Int32) (τ21 : zSg) (r21 : Int32) (g1 : p_204 a0 (zB + 50) σ r1 τ1) (h2 : r1.toInt = (0 : Int)) (g3 : p_204 a0 (zB + 46) τ1 r3 τ3) (h4 : r3.toInt = (0 : Int)) (g5 : p_204 a0 (zB + 51) τ3 r5 τ5) (h6 : r5.toInt = (0 : Int)) (g7 : p_204 a0 (zB + 52) τ5 r7 τ7) (h8 : r7.toInt = (0 : Int)) (g9 : p_204 a0 (zB + 47) τ7 r9 τ9) (h10 : r9.toInt = (0 : Int)) (g11 : p_204 a0 (zB + 53) τ9 r11 τ11) (h12 : r11.toInt = (0 : Int)) (g13 : p_204 a0 (zB + 54) τ11 r13 τ13) (h14 : r13.toInt = (0 : Int)) (g15 : p_204 a0 (zB + 55) τ13 r15 τ15) (h16 : r15.toInt = (0 : Int)) (g17 : p_204 a0 (zB + 56) τ15 r17 τ17) (h18 : r17.toInt = (0 : Int)) (g19 : p_204 a0 (zB + 57) τ17 r19 τ19) (h20 : r19.toInt ≠ (0 : Int)) (g21 : p_211 a0 (Int32.ofInt (4)) (Int32.ofInt (0)) (Int32.ofInt (23)) τ19 r21 τ21) (h22 : r21.toInt = (0 : Int)) :
    p_220 (a0) σ (Int32.ofInt (0)) τ21 := by
  rintro rfl b B E nf nt A ⟨H, hB, h0, hnf, h1, hnt⟩
  obtain ⟨rfl, u0, v0⟩ := H.wd hB g1 qsi_50 (by decide)
  obtain ⟨rfl, u1, v1⟩ := H.wd hB g3 qsi_46 (by decide)
  obtain ⟨rfl, u2, v2⟩ := H.wd hB g5 qsi_51 (by decide)
  obtain ⟨rfl, u3, v3⟩ := H.wd hB g7 qsi_52 (by decide)
  obtain ⟨rfl, u4, v4⟩ := H.wd hB g9 qsi_47 (by decide)
  obtain ⟨rfl, u5, v5⟩ := H.wd hB g11 qsi_53 (by decide)
  obtain ⟨rfl, u6, v6⟩ := H.wd hB g13 qsi_54 (by decide)
  obtain ⟨rfl, u7, v7⟩ := H.wd hB g15 qsi_55 (by decide)
  obtain ⟨rfl, u8, v8⟩ := H.wd hB g17 qsi_56 (by decide)
  obtain ⟨rfl, u9, v9⟩ := H.wd hB g19 qsi_57 (by decide)
  have e0 := v0 h2
  have e1 := v1 h4
  have e2 := v2 h6
  have e3 := v3 h8
  have e4 := v4 h10
  have e5 := v5 h12
  have e6 := v6 h14
  have e7 := v7 h16
  have e8 := v8 h18
  have e9 := u9 h20
  have e : dLine b E nf nt B = dLk b E nf nt B (zBl b E (zLt b E B)) 9 := dLine_at 9 e9 rfl (by decide)
  rw [e]
  obtain ⟨f2, w⟩ := g21 rfl b _ E A 4 H rfl (by omega)
  rw [show (Int32.ofInt 0).toInt = 0 from rfl, show (Int32.ofInt 23).toInt = 23 from rfl] at w
  refine ⟨f2, ?_⟩
  rw [dLk_9]
  unfold dSt
  rcases w with ⟨v, A1, t, h8, h9⟩ | ⟨t, h8, h9⟩
  · first
    | (exfalso; omega)
    | (rw [t]; exact ⟨h8, h9⟩)
    | (rw [t]; exact ⟨by decide, h9⟩)
  · first
    | (exfalso; omega)
    | (rw [t]; exact ⟨h8, h9⟩)
    | (rw [t]; exact ⟨rfl, h9⟩)
theorem sp_220_etttttttttff (a0 : Nat) (σ : zSg) (τ1 : zSg) (r1 : Int32) (τ3 : zSg) (r3 : Int32) (τ5 : zSg) (r5 : Int32) (τ7 : zSg) (r7 : Int32) (τ9 : zSg) (r9 : Int32) (τ11 : zSg) (r11 : Int32) (τ13 : zSg) (r13 : Int32) (τ15 : zSg) (r15 : Int32) (τ17 : zSg) (r17 : Int32) (τ19 : zSg) (r19 : Int32) (τ21 : zSg) (r21 : Int32) (g1 : p_204 a0 (zB + 50) σ r1 τ1) (h2 : r1.toInt = (0 : Int)) (g3 : p_204 a0 (zB + 46) τ1 r3 τ3) (h4 : r3.toInt = (0 : Int)) (g5 : p_204 a0 (zB + 51) τ3 r5 τ5) (h6 : r5.toInt = (0 : Int)) (g7 : p_204 a0 (zB + 52) τ5 r7 τ7) (h8 : r7.toInt = (0 : Int)) (g9 : p_204 a0 (zB + 47) τ7 r9 τ9) (h10 : r9.toInt = (0 : Int)) (g11 : p_204 a0 (zB + 53) τ9 r11 τ11) (h12 : r11.toInt = (0 : Int)) (g13 : p_204 a0 (zB + 54) τ11 r13 τ13) (h14 : r13.toInt = (0 : Int)) (g15 : p_204 a0 (zB + 55) τ13 r15 τ15) (h16 : r15.toInt = (0 : Int)) (g17 : p_204 a0 (zB + 56) τ15 r17 τ17) (h18 : r17.toInt = (0 : Int)) (g19 : p_204 a0 (zB + 57) τ17 r19 τ19) (h20 : r19.toInt ≠ (0 : Int)) (g21 : p_211 a0 (Int32.ofInt (4)) (Int32.ofInt (0)) (Int32.ofInt (23)) τ19 r21 τ21) (h22 : r21.toInt ≠ (0 : Int)) :
    p_220 (a0) σ (Int32.ofInt (1)) τ21 := by
  rintro rfl b B E nf nt A ⟨H, hB, h0, hnf, h1, hnt⟩
  obtain ⟨rfl, u0, v0⟩ := H.wd hB g1 qsi_50 (by decide)
  obtain ⟨rfl, u1, v1⟩ := H.wd hB g3 qsi_46 (by decide)
  obtain ⟨rfl, u2, v2⟩ := H.wd hB g5 qsi_51 (by decide)
  obtain ⟨rfl, u3, v3⟩ := H.wd hB g7 qsi_52 (by decide)
  obtain ⟨rfl, u4, v4⟩ := H.wd hB g9 qsi_47 (by decide)
  obtain ⟨rfl, u5, v5⟩ := H.wd hB g11 qsi_53 (by decide)
  obtain ⟨rfl, u6, v6⟩ := H.wd hB g13 qsi_54 (by decide)
  obtain ⟨rfl, u7, v7⟩ := H.wd hB g15 qsi_55 (by decide)
  obtain ⟨rfl, u8, v8⟩ := H.wd hB g17 qsi_56 (by decide)
  obtain ⟨rfl, u9, v9⟩ := H.wd hB g19 qsi_57 (by decide)
  have e0 := v0 h2
  have e1 := v1 h4
  have e2 := v2 h6
  have e3 := v3 h8
  have e4 := v4 h10
  have e5 := v5 h12
  have e6 := v6 h14
  have e7 := v7 h16
  have e8 := v8 h18
  have e9 := u9 h20
  have e : dLine b E nf nt B = dLk b E nf nt B (zBl b E (zLt b E B)) 9 := dLine_at 9 e9 rfl (by decide)
  rw [e]
  obtain ⟨f2, w⟩ := g21 rfl b _ E A 4 H rfl (by omega)
  rw [show (Int32.ofInt 0).toInt = 0 from rfl, show (Int32.ofInt 23).toInt = 23 from rfl] at w
  refine ⟨f2, ?_⟩
  rw [dLk_9]
  unfold dSt
  rcases w with ⟨v, A1, t, h8, h9⟩ | ⟨t, h8, h9⟩
  · first
    | (exfalso; omega)
    | (rw [t]; exact ⟨h8, h9⟩)
    | (rw [t]; exact ⟨by decide, h9⟩)
  · first
    | (exfalso; omega)
    | (rw [t]; exact ⟨h8, h9⟩)
    | (rw [t]; exact ⟨rfl, h9⟩)
theorem sp_220_ettttttttf (a0 : Nat) (σ : zSg) (τ1 : zSg) (r1 : Int32) (τ3 : zSg) (r3 : Int32) (τ5 : zSg) (r5 : Int32) (τ7 : zSg) (r7 : Int32) (τ9 : zSg) (r9 : Int32) (τ11 : zSg) (r11 : Int32) (τ13 : zSg) (r13 : Int32) (τ15 : zSg) (r15 : Int32) (τ17 : zSg) (r17 : Int32) (τ23 : zSg) (r23 : Int32) (g1 : p_204 a0 (zB + 50) σ r1 τ1) (h2 : r1.toInt = (0 : Int)) (g3 : p_204 a0 (zB + 46) τ1 r3 τ3) (h4 : r3.toInt = (0 : Int)) (g5 : p_204 a0 (zB + 51) τ3 r5 τ5) (h6 : r5.toInt = (0 : Int)) (g7 : p_204 a0 (zB + 52) τ5 r7 τ7) (h8 : r7.toInt = (0 : Int)) (g9 : p_204 a0 (zB + 47) τ7 r9 τ9) (h10 : r9.toInt = (0 : Int)) (g11 : p_204 a0 (zB + 53) τ9 r11 τ11) (h12 : r11.toInt = (0 : Int)) (g13 : p_204 a0 (zB + 54) τ11 r13 τ13) (h14 : r13.toInt = (0 : Int)) (g15 : p_204 a0 (zB + 55) τ13 r15 τ15) (h16 : r15.toInt = (0 : Int)) (g17 : p_204 a0 (zB + 56) τ15 r17 τ17) (h18 : r17.toInt ≠ (0 : Int)) (g23 : p_211 a0 (Int32.ofInt (13)) (Int32.ofInt (0)) (Int32.ofInt (100)) τ17 r23 τ23) :
    p_220 (a0) σ r23 τ23 := by
  rintro rfl b B E nf nt A ⟨H, hB, h0, hnf, h1, hnt⟩
  obtain ⟨rfl, u0, v0⟩ := H.wd hB g1 qsi_50 (by decide)
  obtain ⟨rfl, u1, v1⟩ := H.wd hB g3 qsi_46 (by decide)
  obtain ⟨rfl, u2, v2⟩ := H.wd hB g5 qsi_51 (by decide)
  obtain ⟨rfl, u3, v3⟩ := H.wd hB g7 qsi_52 (by decide)
  obtain ⟨rfl, u4, v4⟩ := H.wd hB g9 qsi_47 (by decide)
  obtain ⟨rfl, u5, v5⟩ := H.wd hB g11 qsi_53 (by decide)
  obtain ⟨rfl, u6, v6⟩ := H.wd hB g13 qsi_54 (by decide)
  obtain ⟨rfl, u7, v7⟩ := H.wd hB g15 qsi_55 (by decide)
  obtain ⟨rfl, u8, v8⟩ := H.wd hB g17 qsi_56 (by decide)
  have e0 := v0 h2
  have e1 := v1 h4
  have e2 := v2 h6
  have e3 := v3 h8
  have e4 := v4 h10
  have e5 := v5 h12
  have e6 := v6 h14
  have e7 := v7 h16
  have e8 := u8 h18
  have e : dLine b E nf nt B = dLk b E nf nt B (zBl b E (zLt b E B)) 8 := dLine_at 8 e8 rfl (by decide)
  rw [e]
  obtain ⟨f2, w⟩ := g23 rfl b _ E A 13 H rfl (by omega)
  rw [show (Int32.ofInt 0).toInt = 0 from rfl, show (Int32.ofInt 100).toInt = 100 from rfl] at w
  refine ⟨f2, ?_⟩
  rw [dLk_8]
  unfold dSt
  rcases w with ⟨v, A1, t, h8, h9⟩ | ⟨t, h8, h9⟩
  · first
    | (exfalso; omega)
    | (rw [t]; exact ⟨h8, h9⟩)
    | (rw [t]; exact ⟨by decide, h9⟩)
  · first
    | (exfalso; omega)
    | (rw [t]; exact ⟨h8, h9⟩)
    | (rw [t]; exact ⟨rfl, h9⟩)
theorem sp_220_etttttttf (a0 : Nat) (σ : zSg) (τ1 : zSg) (r1 : Int32) (τ3 : zSg) (r3 : Int32) (τ5 : zSg) (r5 : Int32) (τ7 : zSg) (r7 : Int32) (τ9 : zSg) (r9 : Int32) (τ11 : zSg) (r11 : Int32) (τ13 : zSg) (r13 : Int32) (τ15 : zSg) (r15 : Int32) (τ24 : zSg) (r24 : Int32) (g1 : p_204 a0 (zB + 50) σ r1 τ1) (h2 : r1.toInt = (0 : Int)) (g3 : p_204 a0 (zB + 46) τ1 r3 τ3) (h4 : r3.toInt = (0 : Int)) (g5 : p_204 a0 (zB + 51) τ3 r5 τ5) (h6 : r5.toInt = (0 : Int)) (g7 : p_204 a0 (zB + 52) τ5 r7 τ7) (h8 : r7.toInt = (0 : Int)) (g9 : p_204 a0 (zB + 47) τ7 r9 τ9) (h10 : r9.toInt = (0 : Int)) (g11 : p_204 a0 (zB + 53) τ9 r11 τ11) (h12 : r11.toInt = (0 : Int)) (g13 : p_204 a0 (zB + 54) τ11 r13 τ13) (h14 : r13.toInt = (0 : Int)) (g15 : p_204 a0 (zB + 55) τ13 r15 τ15) (h16 : r15.toInt ≠ (0 : Int)) (g24 : p_211 a0 (Int32.ofInt (12)) (Int32.ofInt (0)) (Int32.ofInt (99)) τ15 r24 τ24) :
    p_220 (a0) σ r24 τ24 := by
  rintro rfl b B E nf nt A ⟨H, hB, h0, hnf, h1, hnt⟩
  obtain ⟨rfl, u0, v0⟩ := H.wd hB g1 qsi_50 (by decide)
  obtain ⟨rfl, u1, v1⟩ := H.wd hB g3 qsi_46 (by decide)
  obtain ⟨rfl, u2, v2⟩ := H.wd hB g5 qsi_51 (by decide)
  obtain ⟨rfl, u3, v3⟩ := H.wd hB g7 qsi_52 (by decide)
  obtain ⟨rfl, u4, v4⟩ := H.wd hB g9 qsi_47 (by decide)
  obtain ⟨rfl, u5, v5⟩ := H.wd hB g11 qsi_53 (by decide)
  obtain ⟨rfl, u6, v6⟩ := H.wd hB g13 qsi_54 (by decide)
  obtain ⟨rfl, u7, v7⟩ := H.wd hB g15 qsi_55 (by decide)
  have e0 := v0 h2
  have e1 := v1 h4
  have e2 := v2 h6
  have e3 := v3 h8
  have e4 := v4 h10
  have e5 := v5 h12
  have e6 := v6 h14
  have e7 := u7 h16
  have e : dLine b E nf nt B = dLk b E nf nt B (zBl b E (zLt b E B)) 7 := dLine_at 7 e7 rfl (by decide)
  rw [e]
  obtain ⟨f2, w⟩ := g24 rfl b _ E A 12 H rfl (by omega)
  rw [show (Int32.ofInt 0).toInt = 0 from rfl, show (Int32.ofInt 99).toInt = 99 from rfl] at w
  refine ⟨f2, ?_⟩
  rw [dLk_7]
  unfold dSt
  rcases w with ⟨v, A1, t, h8, h9⟩ | ⟨t, h8, h9⟩
  · first
    | (exfalso; omega)
    | (rw [t]; exact ⟨h8, h9⟩)
    | (rw [t]; exact ⟨by decide, h9⟩)
  · first
    | (exfalso; omega)
    | (rw [t]; exact ⟨h8, h9⟩)
    | (rw [t]; exact ⟨rfl, h9⟩)
theorem sp_220_ettttttf (a0 : Nat) (σ : zSg) (τ1 : zSg) (r1 : Int32) (τ3 : zSg) (r3 : Int32) (τ5 : zSg) (r5 : Int32) (τ7 : zSg) (r7 : Int32) (τ9 : zSg) (r9 : Int32) (τ11 : zSg) (r11 : Int32) (τ13 : zSg) (r13 : Int32) (τ25 : zSg) (r25 : Int32) (g1 : p_204 a0 (zB + 50) σ r1 τ1) (h2 : r1.toInt = (0 : Int)) (g3 : p_204 a0 (zB + 46) τ1 r3 τ3) (h4 : r3.toInt = (0 : Int)) (g5 : p_204 a0 (zB + 51) τ3 r5 τ5) (h6 : r5.toInt = (0 : Int)) (g7 : p_204 a0 (zB + 52) τ5 r7 τ7) (h8 : r7.toInt = (0 : Int)) (g9 : p_204 a0 (zB + 47) τ7 r9 τ9) (h10 : r9.toInt = (0 : Int)) (g11 : p_204 a0 (zB + 53) τ9 r11 τ11) (h12 : r11.toInt = (0 : Int)) (g13 : p_204 a0 (zB + 54) τ11 r13 τ13) (h14 : r13.toInt ≠ (0 : Int)) (g25 : p_211 a0 (Int32.ofInt (11)) (Int32.ofInt (0)) (Int32.ofInt (20)) τ13 r25 τ25) :
    p_220 (a0) σ r25 τ25 := by
  rintro rfl b B E nf nt A ⟨H, hB, h0, hnf, h1, hnt⟩
  obtain ⟨rfl, u0, v0⟩ := H.wd hB g1 qsi_50 (by decide)
  obtain ⟨rfl, u1, v1⟩ := H.wd hB g3 qsi_46 (by decide)
  obtain ⟨rfl, u2, v2⟩ := H.wd hB g5 qsi_51 (by decide)
  obtain ⟨rfl, u3, v3⟩ := H.wd hB g7 qsi_52 (by decide)
  obtain ⟨rfl, u4, v4⟩ := H.wd hB g9 qsi_47 (by decide)
  obtain ⟨rfl, u5, v5⟩ := H.wd hB g11 qsi_53 (by decide)
  obtain ⟨rfl, u6, v6⟩ := H.wd hB g13 qsi_54 (by decide)
  have e0 := v0 h2
  have e1 := v1 h4
  have e2 := v2 h6
  have e3 := v3 h8
  have e4 := v4 h10
  have e5 := v5 h12
  have e6 := u6 h14
  have e : dLine b E nf nt B = dLk b E nf nt B (zBl b E (zLt b E B)) 6 := dLine_at 6 e6 rfl (by decide)
  rw [e]
  obtain ⟨f2, w⟩ := g25 rfl b _ E A 11 H rfl (by omega)
  rw [show (Int32.ofInt 0).toInt = 0 from rfl, show (Int32.ofInt 20).toInt = 20 from rfl] at w
  refine ⟨f2, ?_⟩
  rw [dLk_6]
  unfold dSt
  rcases w with ⟨v, A1, t, h8, h9⟩ | ⟨t, h8, h9⟩
  · first
    | (exfalso; omega)
    | (rw [t]; exact ⟨h8, h9⟩)
    | (rw [t]; exact ⟨by decide, h9⟩)
  · first
    | (exfalso; omega)
    | (rw [t]; exact ⟨h8, h9⟩)
    | (rw [t]; exact ⟨rfl, h9⟩)
theorem sp_220_etttttf (a0 : Nat) (σ : zSg) (τ1 : zSg) (r1 : Int32) (τ3 : zSg) (r3 : Int32) (τ5 : zSg) (r5 : Int32) (τ7 : zSg) (r7 : Int32) (τ9 : zSg) (r9 : Int32) (τ11 : zSg) (r11 : Int32) (τ26 : zSg) (r26 : Int32) (g1 : p_204 a0 (zB + 50) σ r1 τ1) (h2 : r1.toInt = (0 : Int)) (g3 : p_204 a0 (zB + 46) τ1 r3 τ3) (h4 : r3.toInt = (0 : Int)) (g5 : p_204 a0 (zB + 51) τ3 r5 τ5) (h6 : r5.toInt = (0 : Int)) (g7 : p_204 a0 (zB + 52) τ5 r7 τ7) (h8 : r7.toInt = (0 : Int)) (g9 : p_204 a0 (zB + 47) τ7 r9 τ9) (h10 : r9.toInt = (0 : Int)) (g11 : p_204 a0 (zB + 53) τ9 r11 τ11) (h12 : r11.toInt ≠ (0 : Int)) (g26 : p_211 a0 (Int32.ofInt (10)) (Int32.ofInt (0)) (Int32.ofInt (9)) τ11 r26 τ26) :
    p_220 (a0) σ r26 τ26 := by
  rintro rfl b B E nf nt A ⟨H, hB, h0, hnf, h1, hnt⟩
  obtain ⟨rfl, u0, v0⟩ := H.wd hB g1 qsi_50 (by decide)
  obtain ⟨rfl, u1, v1⟩ := H.wd hB g3 qsi_46 (by decide)
  obtain ⟨rfl, u2, v2⟩ := H.wd hB g5 qsi_51 (by decide)
  obtain ⟨rfl, u3, v3⟩ := H.wd hB g7 qsi_52 (by decide)
  obtain ⟨rfl, u4, v4⟩ := H.wd hB g9 qsi_47 (by decide)
  obtain ⟨rfl, u5, v5⟩ := H.wd hB g11 qsi_53 (by decide)
  have e0 := v0 h2
  have e1 := v1 h4
  have e2 := v2 h6
  have e3 := v3 h8
  have e4 := v4 h10
  have e5 := u5 h12
  have e : dLine b E nf nt B = dLk b E nf nt B (zBl b E (zLt b E B)) 5 := dLine_at 5 e5 rfl (by decide)
  rw [e]
  obtain ⟨f2, w⟩ := g26 rfl b _ E A 10 H rfl (by omega)
  rw [show (Int32.ofInt 0).toInt = 0 from rfl, show (Int32.ofInt 9).toInt = 9 from rfl] at w
  refine ⟨f2, ?_⟩
  rw [dLk_5]
  unfold dSt
  rcases w with ⟨v, A1, t, h8, h9⟩ | ⟨t, h8, h9⟩
  · first
    | (exfalso; omega)
    | (rw [t]; exact ⟨h8, h9⟩)
    | (rw [t]; exact ⟨by decide, h9⟩)
  · first
    | (exfalso; omega)
    | (rw [t]; exact ⟨h8, h9⟩)
    | (rw [t]; exact ⟨rfl, h9⟩)
theorem sp_220_ettttf (a0 : Nat) (σ : zSg) (τ1 : zSg) (r1 : Int32) (τ3 : zSg) (r3 : Int32) (τ5 : zSg) (r5 : Int32) (τ7 : zSg) (r7 : Int32) (τ9 : zSg) (r9 : Int32) (τ27 : zSg) (r27 : Int32) (g1 : p_204 a0 (zB + 50) σ r1 τ1) (h2 : r1.toInt = (0 : Int)) (g3 : p_204 a0 (zB + 46) τ1 r3 τ3) (h4 : r3.toInt = (0 : Int)) (g5 : p_204 a0 (zB + 51) τ3 r5 τ5) (h6 : r5.toInt = (0 : Int)) (g7 : p_204 a0 (zB + 52) τ5 r7 τ7) (h8 : r7.toInt = (0 : Int)) (g9 : p_204 a0 (zB + 47) τ7 r9 τ9) (h10 : r9.toInt ≠ (0 : Int)) (g27 : p_218 a0 τ9 r27 τ27) :
    p_220 (a0) σ r27 τ27 := by
  rintro rfl b B E nf nt A ⟨H, hB, h0, hnf, h1, hnt⟩
  obtain ⟨rfl, u0, v0⟩ := H.wd hB g1 qsi_50 (by decide)
  obtain ⟨rfl, u1, v1⟩ := H.wd hB g3 qsi_46 (by decide)
  obtain ⟨rfl, u2, v2⟩ := H.wd hB g5 qsi_51 (by decide)
  obtain ⟨rfl, u3, v3⟩ := H.wd hB g7 qsi_52 (by decide)
  obtain ⟨rfl, u4, v4⟩ := H.wd hB g9 qsi_47 (by decide)
  have e0 := v0 h2
  have e1 := v1 h4
  have e2 := v2 h6
  have e3 := v3 h8
  have e4 := u4 h10
  have e : dLine b E nf nt B = dLk b E nf nt B (zBl b E (zLt b E B)) 4 := dLine_at 4 e4 rfl (by decide)
  rw [e]
  exact g27 rfl b B _ E nf nt A ⟨H, hB, h0, hnf, h1, hnt⟩
theorem sp_220_etttf (a0 : Nat) (σ : zSg) (τ1 : zSg) (r1 : Int32) (τ3 : zSg) (r3 : Int32) (τ5 : zSg) (r5 : Int32) (τ7 : zSg) (r7 : Int32) (τ28 : zSg) (r28 : Int32) (g1 : p_204 a0 (zB + 50) σ r1 τ1) (h2 : r1.toInt = (0 : Int)) (g3 : p_204 a0 (zB + 46) τ1 r3 τ3) (h4 : r3.toInt = (0 : Int)) (g5 : p_204 a0 (zB + 51) τ3 r5 τ5) (h6 : r5.toInt = (0 : Int)) (g7 : p_204 a0 (zB + 52) τ5 r7 τ7) (h8 : r7.toInt ≠ (0 : Int)) (g28 : p_219 a0 τ7 r28 τ28) :
    p_220 (a0) σ r28 τ28 := by
  rintro rfl b B E nf nt A ⟨H, hB, h0, hnf, h1, hnt⟩
  obtain ⟨rfl, u0, v0⟩ := H.wd hB g1 qsi_50 (by decide)
  obtain ⟨rfl, u1, v1⟩ := H.wd hB g3 qsi_46 (by decide)
  obtain ⟨rfl, u2, v2⟩ := H.wd hB g5 qsi_51 (by decide)
  obtain ⟨rfl, u3, v3⟩ := H.wd hB g7 qsi_52 (by decide)
  have e0 := v0 h2
  have e1 := v1 h4
  have e2 := v2 h6
  have e3 := u3 h8
  have e : dLine b E nf nt B = dLk b E nf nt B (zBl b E (zLt b E B)) 3 := dLine_at 3 e3 rfl (by decide)
  rw [e]
  exact g28 rfl b B _ E nf nt A ⟨H, hB, h0, hnf, h1, hnt⟩
theorem sp_220_ettf (a0 : Nat) (σ : zSg) (τ1 : zSg) (r1 : Int32) (τ3 : zSg) (r3 : Int32) (τ5 : zSg) (r5 : Int32) (τ29 : zSg) (r29 : Int32) (g1 : p_204 a0 (zB + 50) σ r1 τ1) (h2 : r1.toInt = (0 : Int)) (g3 : p_204 a0 (zB + 46) τ1 r3 τ3) (h4 : r3.toInt = (0 : Int)) (g5 : p_204 a0 (zB + 51) τ3 r5 τ5) (h6 : r5.toInt ≠ (0 : Int)) (g29 : p_217 a0 τ5 r29 τ29) :
    p_220 (a0) σ r29 τ29 := by
  rintro rfl b B E nf nt A ⟨H, hB, h0, hnf, h1, hnt⟩
  obtain ⟨rfl, u0, v0⟩ := H.wd hB g1 qsi_50 (by decide)
  obtain ⟨rfl, u1, v1⟩ := H.wd hB g3 qsi_46 (by decide)
  obtain ⟨rfl, u2, v2⟩ := H.wd hB g5 qsi_51 (by decide)
  have e0 := v0 h2
  have e1 := v1 h4
  have e2 := u2 h6
  have e : dLine b E nf nt B = dLk b E nf nt B (zBl b E (zLt b E B)) 2 := dLine_at 2 e2 rfl (by decide)
  rw [e]
  exact g29 rfl b B _ E nf nt A ⟨H, hB, h0, hnf, h1, hnt⟩
theorem sp_220_etf (a0 : Nat) (σ : zSg) (τ1 : zSg) (r1 : Int32) (τ3 : zSg) (r3 : Int32) (τ30 : zSg) (r30 : Int32) (g1 : p_204 a0 (zB + 50) σ r1 τ1) (h2 : r1.toInt = (0 : Int)) (g3 : p_204 a0 (zB + 46) τ1 r3 τ3) (h4 : r3.toInt ≠ (0 : Int)) (g30 : p_216 a0 τ3 r30 τ30) :
    p_220 (a0) σ r30 τ30 := by
  rintro rfl b B E nf nt A ⟨H, hB, h0, hnf, h1, hnt⟩
  obtain ⟨rfl, u0, v0⟩ := H.wd hB g1 qsi_50 (by decide)
  obtain ⟨rfl, u1, v1⟩ := H.wd hB g3 qsi_46 (by decide)
  have e0 := v0 h2
  have e1 := u1 h4
  have e : dLine b E nf nt B = dLk b E nf nt B (zBl b E (zLt b E B)) 1 := dLine_at 1 e1 rfl (by decide)
  rw [e]
  exact g30 rfl b B _ E nf nt A ⟨H, hB, h0, hnf, h1, hnt⟩
theorem sp_220_ef (a0 : Nat) (σ : zSg) (τ1 : zSg) (r1 : Int32) (τ31 : zSg) (r31 : Int32) (g1 : p_204 a0 (zB + 50) σ r1 τ1) (h2 : r1.toInt ≠ (0 : Int)) (g31 : p_214 a0 τ1 r31 τ31) :
    p_220 (a0) σ r31 τ31 := by
  rintro rfl b B E nf nt A ⟨H, hB, h0, hnf, h1, hnt⟩
  obtain ⟨rfl, u0, v0⟩ := H.wd hB g1 qsi_50 (by decide)
  have e0 := u0 h2
  have e : dLine b E nf nt B = dLk b E nf nt B (zBl b E (zLt b E B)) 0 := dLine_at 0 e0 rfl (by decide)
  rw [e]
  exact g31 rfl b B _ E nf nt A ⟨H, hB, h0, hnf, h1, hnt⟩
noncomputable def qP_220 : zPp := fun as σ o σ' => match as with
  | [a0] => ∃ r, o = .inl (some (.int r)) ∧ p_220 (q_r a0) σ r σ'
  | _ => True
set_option maxRecDepth 100000 in
theorem sp_220 {sx : zX} (S204 : zEe sx 204 2 qP_204) (S211 : zEe sx 211 4 qP_211) (S218 : zEe sx 218 1 qP_218) (S219 : zEe sx 219 1 qP_219) (S217 : zEe sx 217 1 qP_217) (S216 : zEe sx 216 1 qP_216) (S214 : zEe sx 214 1 qP_214) : zEe sx 220 1 qP_220 := by
  refine zfle zJ_220 (sps := [(204, 2, qP_204), (211, 4, qP_211), (218, 1, qP_218), (219, 1, qP_219), (217, 1, qP_217), (216, 1, qP_216), (214, 1, qP_214)]) (fun q hq => by
    simp only [List.mem_cons, List.not_mem_nil, or_false] at hq
    rcases hq with rfl | rfl | rfl | rfl | rfl | rfl | rfl
    · exact S204
    · exact S211
    · exact S218
    · exact S219
    · exact S217
    · exact S216
    · exact S214) (fun as σ hl => ?_)
  match as, hl with
  | [a0], _ =>
  refine ⟨[], 400, ?_, ?_⟩
  · exact fun q hq => absurd hq List.not_mem_nil
  · refine fun o1 τ1 g1 => ?_
    obtain ⟨r1, rfl, g1⟩ := g1
    refine And.intro (fun h2 => ?_) (fun h2 => ?_)
    · refine fun o3 τ3 g3 => ?_
      obtain ⟨r3, rfl, g3⟩ := g3
      refine And.intro (fun h4 => ?_) (fun h4 => ?_)
      · refine fun o5 τ5 g5 => ?_
        obtain ⟨r5, rfl, g5⟩ := g5
        refine And.intro (fun h6 => ?_) (fun h6 => ?_)
        · refine fun o7 τ7 g7 => ?_
          obtain ⟨r7, rfl, g7⟩ := g7
          refine And.intro (fun h8 => ?_) (fun h8 => ?_)
          · refine fun o9 τ9 g9 => ?_
            obtain ⟨r9, rfl, g9⟩ := g9
            refine And.intro (fun h10 => ?_) (fun h10 => ?_)
            · refine fun o11 τ11 g11 => ?_
              obtain ⟨r11, rfl, g11⟩ := g11
              refine And.intro (fun h12 => ?_) (fun h12 => ?_)
              · refine fun o13 τ13 g13 => ?_
                obtain ⟨r13, rfl, g13⟩ := g13
                refine And.intro (fun h14 => ?_) (fun h14 => ?_)
                · refine fun o15 τ15 g15 => ?_
                  obtain ⟨r15, rfl, g15⟩ := g15
                  refine And.intro (fun h16 => ?_) (fun h16 => ?_)
                  · refine fun o17 τ17 g17 => ?_
                    obtain ⟨r17, rfl, g17⟩ := g17
                    refine And.intro (fun h18 => ?_) (fun h18 => ?_)
                    · refine fun o19 τ19 g19 => ?_
                      obtain ⟨r19, rfl, g19⟩ := g19
                      refine And.intro (fun h20 => ?_) (fun h20 => ?_)
                      · exact ⟨_, rfl, sp_220_etttttttttt (q_r a0) σ τ1 r1 τ3 r3 τ5 r5 τ7 r7 τ9 r9 τ11 r11 τ13 r13 τ15 r15 τ17 r17 τ19 r19 g1 (cm0t h2) g3 (cm0t h4) g5 (cm0t h6) g7 (cm0t h8) g9 (cm0t h10) g11 (cm0t h12) g13 (cm0t h14) g15 (cm0t h16) g17 (cm0t h18) g19 (cm0t h20)⟩
                      · refine fun o21 τ21 g21 => ?_
                        obtain ⟨r21, rfl, g21⟩ := g21
                        refine And.intro (fun h22 => ?_) (fun h22 => ?_)
                        · exact ⟨_, rfl, sp_220_etttttttttft (q_r a0) σ τ1 r1 τ3 r3 τ5 r5 τ7 r7 τ9 r9 τ11 r11 τ13 r13 τ15 r15 τ17 r17 τ19 r19 τ21 r21 g1 (cm0t h2) g3 (cm0t h4) g5 (cm0t h6) g7 (cm0t h8) g9 (cm0t h10) g11 (cm0t h12) g13 (cm0t h14) g15 (cm0t h16) g17 (cm0t h18) g19 (cm0f h20) g21 (cm0t h22)⟩
                        · exact ⟨_, rfl, sp_220_etttttttttff (q_r a0) σ τ1 r1 τ3 r3 τ5 r5 τ7 r7 τ9 r9 τ11 r11 τ13 r13 τ15 r15 τ17 r17 τ19 r19 τ21 r21 g1 (cm0t h2) g3 (cm0t h4) g5 (cm0t h6) g7 (cm0t h8) g9 (cm0t h10) g11 (cm0t h12) g13 (cm0t h14) g15 (cm0t h16) g17 (cm0t h18) g19 (cm0f h20) g21 (cm0f h22)⟩
                    · refine fun o23 τ23 g23 => ?_
                      obtain ⟨r23, rfl, g23⟩ := g23
                      exact ⟨_, rfl, sp_220_ettttttttf (q_r a0) σ τ1 r1 τ3 r3 τ5 r5 τ7 r7 τ9 r9 τ11 r11 τ13 r13 τ15 r15 τ17 r17 τ23 r23 g1 (cm0t h2) g3 (cm0t h4) g5 (cm0t h6) g7 (cm0t h8) g9 (cm0t h10) g11 (cm0t h12) g13 (cm0t h14) g15 (cm0t h16) g17 (cm0f h18) g23⟩
                  · refine fun o24 τ24 g24 => ?_
                    obtain ⟨r24, rfl, g24⟩ := g24
                    exact ⟨_, rfl, sp_220_etttttttf (q_r a0) σ τ1 r1 τ3 r3 τ5 r5 τ7 r7 τ9 r9 τ11 r11 τ13 r13 τ15 r15 τ24 r24 g1 (cm0t h2) g3 (cm0t h4) g5 (cm0t h6) g7 (cm0t h8) g9 (cm0t h10) g11 (cm0t h12) g13 (cm0t h14) g15 (cm0f h16) g24⟩
                · refine fun o25 τ25 g25 => ?_
                  obtain ⟨r25, rfl, g25⟩ := g25
                  exact ⟨_, rfl, sp_220_ettttttf (q_r a0) σ τ1 r1 τ3 r3 τ5 r5 τ7 r7 τ9 r9 τ11 r11 τ13 r13 τ25 r25 g1 (cm0t h2) g3 (cm0t h4) g5 (cm0t h6) g7 (cm0t h8) g9 (cm0t h10) g11 (cm0t h12) g13 (cm0f h14) g25⟩
              · refine fun o26 τ26 g26 => ?_
                obtain ⟨r26, rfl, g26⟩ := g26
                exact ⟨_, rfl, sp_220_etttttf (q_r a0) σ τ1 r1 τ3 r3 τ5 r5 τ7 r7 τ9 r9 τ11 r11 τ26 r26 g1 (cm0t h2) g3 (cm0t h4) g5 (cm0t h6) g7 (cm0t h8) g9 (cm0t h10) g11 (cm0f h12) g26⟩
            · refine fun o27 τ27 g27 => ?_
              obtain ⟨r27, rfl, g27⟩ := g27
              exact ⟨_, rfl, sp_220_ettttf (q_r a0) σ τ1 r1 τ3 r3 τ5 r5 τ7 r7 τ9 r9 τ27 r27 g1 (cm0t h2) g3 (cm0t h4) g5 (cm0t h6) g7 (cm0t h8) g9 (cm0f h10) g27⟩
          · refine fun o28 τ28 g28 => ?_
            obtain ⟨r28, rfl, g28⟩ := g28
            exact ⟨_, rfl, sp_220_etttf (q_r a0) σ τ1 r1 τ3 r3 τ5 r5 τ7 r7 τ28 r28 g1 (cm0t h2) g3 (cm0t h4) g5 (cm0t h6) g7 (cm0f h8) g28⟩
        · refine fun o29 τ29 g29 => ?_
          obtain ⟨r29, rfl, g29⟩ := g29
          exact ⟨_, rfl, sp_220_ettf (q_r a0) σ τ1 r1 τ3 r3 τ5 r5 τ29 r29 g1 (cm0t h2) g3 (cm0t h4) g5 (cm0f h6) g29⟩
      · refine fun o30 τ30 g30 => ?_
        obtain ⟨r30, rfl, g30⟩ := g30
        exact ⟨_, rfl, sp_220_etf (q_r a0) σ τ1 r1 τ3 r3 τ30 r30 g1 (cm0t h2) g3 (cm0f h4) g30⟩
    · refine fun o31 τ31 g31 => ?_
      obtain ⟨r31, rfl, g31⟩ := g31
      exact ⟨_, rfl, sp_220_ef (q_r a0) σ τ1 r1 τ31 r31 g1 (cm0f h2) g31⟩
