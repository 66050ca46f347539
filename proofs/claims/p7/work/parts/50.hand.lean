/-! steps by hand -/
noncomputable def zJ3 (j : Nat) (M : zMi) (cs : List zI) (hs : List zHd) : Prop := z_ms[j]? = some M ∧ z_cs[j]? = some cs ∧ z_hs[j]? = some hs
noncomputable def znc (o : Nat) : Bool := decide (o ≠ 50 ∧ o ≠ 51 ∧ o ≠ 52 ∧ o ≠ 53 ∧ o ≠ 62 ∧ o ≠ 54 ∧ o ≠ 55 ∧ o ≠ 72 ∧ o ≠ 56 ∧ o ≠ 73)
section ZH
variable {sx : zX} {d j k : Nat} {lo : zL} {st : List Value} {h : zH} {Ψ : zO → zH → Nat → Nat → Prop} {M : zMi} {cs : List zI} {hs : List zHd} {i : zI}
/-- a step that makes nothing -/
theorem zh {k' : Nat} {lo' : zL} {st' : List Value} {h' : zH} (J : zJ3 j M cs hs) (hi : cs[k]? = some i) (hn : znc i.1 = true) (ho : (z_ops.getD i.1 z_no) sx d i.2.1 i.2.2.1 i.2.2.2 k lo st h = zn k' lo' st' h') (kk : z_ok sx d j k' lo' st' h' Ψ) : z_ok sx d j k lo st h Ψ := by
  have hn := of_decide_eq_true hn
  exact z_ok.step J.1 J.2.1 J.2.2 hi (z_fin_no ⟨hn.1, hn.2.1, hn.2.2.1, hn.2.2.2.1, hn.2.2.2.2.1⟩) (z_cal_non hn.2.2.2.2.2) ho kk
theorem zh_get {a b c k' : Nat} {fs : List Value} {v : Value} {z : Int} (J : zJ3 j M cs hs) (hi : cs[k]? = some (37, c, b, z)) (hk : k + 1 = k') (he : h[a]? = some (.inr (c, fs))) (hf : fs[b]? = some v) (kk : z_ok sx d j k' lo (v :: st) h Ψ) : z_ok sx d j k lo (.ref a :: st) h Ψ := by
  refine zh J hi rfl ?_ kk
  show zo_get sx d c b z k lo (.ref a :: st) h = _
  unfold zo_get
  dsimp only
  rw [he]
  dsimp only
  rw [if_pos rfl, hf, hk]
theorem zh_put {a b c k' : Nat} {fs : List Value} {v : Value} {z : Int} (J : zJ3 j M cs hs) (hi : cs[k]? = some (38, c, b, z)) (hk : k + 1 = k') (he : h[a]? = some (.inr (c, fs))) (hb : b < fs.length) (hf : z_fit z v = true) (kk : z_ok sx d j k' lo st (h.set a (.inr (c, fs.set b v))) Ψ) : z_ok sx d j k lo (v :: .ref a :: st) h Ψ := by
  refine zh J hi rfl ?_ kk
  show zo_put sx d c b z k lo (v :: .ref a :: st) h = _
  unfold zo_put
  dsimp only
  rw [he]
  dsimp only
  rw [if_pos ⟨rfl, hb, hf⟩, hk]
theorem zh_iald {a n k' p q : Nat} {f : Nat → Int32} {x : Int32} {z : Int} (J : zJ3 j M cs hs) (hi : cs[k]? = some (39, p, q, z)) (hk : k + 1 = k') (he : h[a]? = some (.inl (0, (n, .inl f)))) (h1 : 0 ≤ x.toInt) (h2 : x.toInt < (n : Int)) (kk : z_ok sx d j k' lo (.int (f x.toNatClampNeg) :: st) h Ψ) : z_ok sx d j k lo (.int x :: .ref a :: st) h Ψ := by
  refine zh J hi rfl ?_ kk
  show zo_iald sx d p q z k lo (.int x :: .ref a :: st) h = _
  unfold zo_iald
  dsimp only
  rw [he]
  show (if z_in x n = true then zn (k + 1) lo (.int (f x.toNatClampNeg) :: st) h else none) = _
  rw [if_pos (z_inn h1 h2).1, hk]
theorem zh_bald {a n k' p q : Nat} {f : Nat → Int32} {x : Int32} {z : Int} (J : zJ3 j M cs hs) (hi : cs[k]? = some (41, p, q, z)) (hk : k + 1 = k') (he : h[a]? = some (.inl (1, (n, .inl f)))) (h1 : 0 ≤ x.toInt) (h2 : x.toInt < (n : Int)) (kk : z_ok sx d j k' lo (.int (f x.toNatClampNeg) :: st) h Ψ) : z_ok sx d j k lo (.int x :: .ref a :: st) h Ψ := by
  refine zh J hi rfl ?_ kk
  show zo_bald sx d p q z k lo (.int x :: .ref a :: st) h = _
  unfold zo_bald
  dsimp only
  rw [he]
  show (if z_in x n = true then zn (k + 1) lo (.int (f x.toNatClampNeg) :: st) h else none) = _
  rw [if_pos (z_inn h1 h2).1, hk]
theorem zh_iast {a n k' p q : Nat} {f : Nat → Int32} {x v : Int32} {z : Int} (J : zJ3 j M cs hs) (hi : cs[k]? = some (40, p, q, z)) (hk : k + 1 = k') (he : h[a]? = some (.inl (0, (n, .inl f)))) (h1 : 0 ≤ x.toInt) (h2 : x.toInt < (n : Int)) (kk : z_ok sx d j k' lo st (h.set a (.inl (0, (n, .inl (upd f x.toNatClampNeg v))))) Ψ) : z_ok sx d j k lo (.int v :: .int x :: .ref a :: st) h Ψ := by
  refine zh J hi rfl ?_ kk
  show zo_iast sx d p q z k lo (.int v :: .int x :: .ref a :: st) h = _
  unfold zo_iast
  dsimp only
  rw [he]
  show (if z_in x n = true then zn (k + 1) lo st (h.set a (.inl (0, (n, .inl (upd f x.toNatClampNeg v))))) else none) = _
  rw [if_pos (z_inn h1 h2).1, hk]
theorem zh_if {a b : Nat} {x : Int32} {z : Int} (J : zJ3 j M cs hs) (hi : cs[k]? = some (31, a, b, z)) (kt : z_cmp b x 0 = true → z_ok sx d j a lo st h Ψ) (kf : ¬ z_cmp b x 0 = true → z_ok sx d j (k + 1) lo st h Ψ) : z_ok sx d j k lo (.int x :: st) h Ψ := by
  by_cases hc : z_cmp b x 0 = true
  · refine zh J hi rfl ?_ (kt hc)
    show zn (if z_cmp b x 0 = true then a else k + 1) lo st h = _
    rw [if_pos hc]
  · refine zh J hi rfl ?_ (kf hc)
    show zn (if z_cmp b x 0 = true then a else k + 1) lo st h = _
    rw [if_neg hc]
theorem zh_icmp {a b : Nat} {x y : Int32} {z : Int} (J : zJ3 j M cs hs) (hi : cs[k]? = some (32, a, b, z)) (kt : z_cmp b x y = true → z_ok sx d j a lo st h Ψ) (kf : ¬ z_cmp b x y = true → z_ok sx d j (k + 1) lo st h Ψ) : z_ok sx d j k lo (.int y :: .int x :: st) h Ψ := by
  by_cases hc : z_cmp b x y = true
  · refine zh J hi rfl ?_ (kt hc)
    show zn (if z_cmp b x y = true then a else k + 1) lo st h = _
    rw [if_pos hc]
  · refine zh J hi rfl ?_ (kf hc)
    show zn (if z_cmp b x y = true then a else k + 1) lo st h = _
    rw [if_neg hc]
theorem zh_vret {a b : Nat} {z : Int} (J : zJ3 j M cs hs) (hi : cs[k]? = some (53, a, b, z)) (kk : Ψ (.inl none) h 0 0) : z_ok sx d j k lo [] h Ψ := z_ok.fin J.1 J.2.1 J.2.2 hi rfl kk
theorem zh_iret {a b : Nat} {z : Int} {x : Int32} (J : zJ3 j M cs hs) (hi : cs[k]? = some (50, a, b, z)) (hr : M.2.2.2.2.1 = some .int ∨ (M.2.2.2.2.1 = some .boolean ∧ (x = 0 ∨ x = 1))) (kk : Ψ (.inl (some (.int x))) h 0 0) : z_ok sx d j k lo [.int x] h Ψ := by
  refine z_ok.fin J.1 J.2.1 J.2.2 hi ?_ kk
  rw [z_fin50 rfl]
  rcases hr with e | ⟨e, e1⟩
  · rw [e]
    exact if_pos rfl
  · rw [e]
    rcases e1 with rfl | rfl
    · exact if_pos rfl
    · exact if_pos rfl
end ZH
/-- comparisons as numbers -/
theorem zcmp_ge {x y : Int32} : z_cmp 3 x y = true ↔ y.toInt ≤ x.toInt := by
  show (!decide (x < y)) = true ↔ _
  rw [Bool.not_eq_true', decide_eq_false_iff_not, Int32.lt_iff_toInt_lt]
  omega
theorem zcmp_lt {x y : Int32} : z_cmp 2 x y = true ↔ x.toInt < y.toInt := by
  show decide (x < y) = true ↔ _
  rw [decide_eq_true_eq, Int32.lt_iff_toInt_lt]
theorem zcmp_eq {x y : Int32} : z_cmp 0 x y = true ↔ x.toInt = y.toInt := by
  show decide (x = y) = true ↔ _
  rw [decide_eq_true_eq]
  exact ⟨fun e => by rw [e], fun e => Int32.toInt_inj.mp e⟩
theorem zcmp_ne {x y : Int32} : z_cmp 1 x y = true ↔ x.toInt ≠ y.toInt := by
  show (!decide (x = y)) = true ↔ _
  rw [Bool.not_eq_true', decide_eq_false_iff_not]
  exact ⟨fun e q => e (Int32.toInt_inj.mp q), fun e q => e (by rw [q])⟩
/-! Math.floorMod -/
theorem zfm_num {x y : Int32} (hy : 0 < y.toInt) : (x - x / y * y).toInt = x.toInt.tmod y.toInt := by
  have hx := zb32 x
  have hyb := zb32 y
  by_cases hp : 0 ≤ x.toInt
  · rw [zrem_ok hp hy, Int.tmod_eq_emod_of_nonneg hp]
  · have e0 : x.toInt.tdiv y.toInt = -((-x.toInt) / y.toInt) := by
      rw [show x.toInt = -(-x.toInt) by omega, Int.neg_tdiv, Int.tdiv_eq_ediv_of_nonneg (by omega), Int.neg_neg]
    have hq : 0 ≤ (-x.toInt) / y.toInt := Int.ediv_nonneg (by omega) (by omega)
    have hle : (-x.toInt) / y.toInt ≤ -x.toInt := Int.ediv_le_self _ (by omega)
    have hm : (-x.toInt) / y.toInt * y.toInt ≤ -x.toInt := Int.ediv_mul_le _ (by omega)
    have hn : 0 ≤ (-x.toInt) / y.toInt * y.toInt := Int.mul_nonneg hq (by omega)
    have e1 : (x / y).toInt = x.toInt.tdiv y.toInt := by rw [Int32.toInt_div]; exact z_bm (by omega) (by omega)
    have e2 : (x / y * y).toInt = x.toInt.tdiv y.toInt * y.toInt := by
      rw [Int32.toInt_mul, e1, e0, Int.neg_mul]
      exact z_bm (by omega) (by omega)
    rw [Int32.toInt_sub, e2, e0, Int.neg_mul, z_bm (by omega) (by omega)]
    have := Int.tmod_def x.toInt y.toInt
    rw [this, e0, Int.mul_neg, Int.mul_comm]
