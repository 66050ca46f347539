/-! WORDS OF CALLS AND FIELDS, each shown once; a call or a field in a row is found by numbers (printed with wip/gen/gen_fa.py) -/
theorem zchn_at : ∀ (n k : Nat) (L : List Cond), k < n → (z_chn n L)[k]? = some (L.drop (64 * k))
  | 0, _, _, h => absurd h (Nat.not_lt_zero _)
  | n + 1, 0, L, _ => rfl
  | n + 1, k + 1, L, h => by
    show (z_chn n (L.drop 64))[k]? = _
    rw [zchn_at n k _ (by omega), List.drop_drop, show 64 + 64 * k = 64 * (k + 1) by omega]
theorem zap_l {A B : List Cond} {n : Nat} {w : Cond} (h : A[n]? = some w) : (A ++ B)[n]? = some w := by
  rw [List.getElem?_append_left (List.getElem?_eq_some_iff.mp h).1]
  exact h
theorem zap_r {A B : List Cond} {a n : Nat} {w : Cond} (ha : A.length = a) (h : B[n]? = some w) : (A ++ B)[a + n]? = some w := by
  rw [← ha, List.getElem?_append_right (Nat.le_add_right _ _), Nat.add_sub_cancel_left]
  exact h
theorem zal_0 : (k2_sels lw_privs).length = 100 := by decide +kernel
theorem zal_1 : tables_1_1.length = 240 := by decide +kernel
theorem zal_2 : tables_1_2.length = 240 := by decide +kernel
theorem zal_3 : tables_1_3.length = 240 := by decide +kernel
theorem zal_4 : tables_1_4.length = 240 := by decide +kernel
theorem zal_5 : tables_1_5.length = 240 := by decide +kernel
theorem zal_6 : tables_1_6.length = 240 := by decide +kernel
theorem zal_7 : tables_1_7.length = 240 := by decide +kernel
theorem zal_8 : tables_1_8.length = 240 := by decide +kernel
theorem zal_all : lw_tbl.length = 2111 := by decide +kernel
theorem zww_of {w : Cond} {i : Nat} (h : lw_tbl[i]? = some w) (hg : goodWord w = true) : z_w w i = true := by
  have hi := (List.getElem?_eq_some_iff.mp h).1
  rw [zal_all] at hi
  unfold z_w z_chs
  rw [zchn_at 40 (i / 64) lw_tbl (by omega)]
  show (decide ((lw_tbl.drop (64 * (i / 64)))[i % 64]? = some w) && goodWord w) = true
  rw [List.getElem?_drop, show 64 * (i / 64) + i % 64 = i by omega, h, hg, Bool.and_true]
  exact decide_eq_true rfl
theorem zat_0 {w : Cond} (n : Nat) (h : (k2_sels lw_privs)[n]? = some w) (hg : goodWord w = true) : z_w w (0 + n) = true := by
  have e : lw_tbl[n]? = some w := zap_l h
  rw [show n = 0 + n by omega] at e
  exact zww_of e hg
theorem zat_1 {w : Cond} (n : Nat) (h : tables_1_1[n]? = some w) (hg : goodWord w = true) : z_w w (100 + n) = true := by
  have e : lw_tbl[100 + n]? = some w := zap_r zal_0 (zap_l h)
  rw [show 100 + n = 100 + n by omega] at e
  exact zww_of e hg
theorem zat_2 {w : Cond} (n : Nat) (h : tables_1_2[n]? = some w) (hg : goodWord w = true) : z_w w (340 + n) = true := by
  have e : lw_tbl[100 + (240 + n)]? = some w := zap_r zal_0 (zap_r zal_1 (zap_l h))
  rw [show 100 + (240 + n) = 340 + n by omega] at e
  exact zww_of e hg
theorem zat_3 {w : Cond} (n : Nat) (h : tables_1_3[n]? = some w) (hg : goodWord w = true) : z_w w (580 + n) = true := by
  have e : lw_tbl[100 + (240 + (240 + n))]? = some w := zap_r zal_0 (zap_r zal_1 (zap_r zal_2 (zap_l h)))
  rw [show 100 + (240 + (240 + n)) = 580 + n by omega] at e
  exact zww_of e hg
theorem zat_4 {w : Cond} (n : Nat) (h : tables_1_4[n]? = some w) (hg : goodWord w = true) : z_w w (820 + n) = true := by
  have e : lw_tbl[100 + (240 + (240 + (240 + n)))]? = some w := zap_r zal_0 (zap_r zal_1 (zap_r zal_2 (zap_r zal_3 (zap_l h))))
  rw [show 100 + (240 + (240 + (240 + n))) = 820 + n by omega] at e
  exact zww_of e hg
theorem zat_5 {w : Cond} (n : Nat) (h : tables_1_5[n]? = some w) (hg : goodWord w = true) : z_w w (1060 + n) = true := by
  have e : lw_tbl[100 + (240 + (240 + (240 + (240 + n))))]? = some w := zap_r zal_0 (zap_r zal_1 (zap_r zal_2 (zap_r zal_3 (zap_r zal_4 (zap_l h)))))
  rw [show 100 + (240 + (240 + (240 + (240 + n)))) = 1060 + n by omega] at e
  exact zww_of e hg
theorem zat_6 {w : Cond} (n : Nat) (h : tables_1_6[n]? = some w) (hg : goodWord w = true) : z_w w (1300 + n) = true := by
  have e : lw_tbl[100 + (240 + (240 + (240 + (240 + (240 + n)))))]? = some w := zap_r zal_0 (zap_r zal_1 (zap_r zal_2 (zap_r zal_3 (zap_r zal_4 (zap_r zal_5 (zap_l h))))))
  rw [show 100 + (240 + (240 + (240 + (240 + (240 + n))))) = 1300 + n by omega] at e
  exact zww_of e hg
theorem zat_7 {w : Cond} (n : Nat) (h : tables_1_7[n]? = some w) (hg : goodWord w = true) : z_w w (1540 + n) = true := by
  have e : lw_tbl[100 + (240 + (240 + (240 + (240 + (240 + (240 + n))))))]? = some w := zap_r zal_0 (zap_r zal_1 (zap_r zal_2 (zap_r zal_3 (zap_r zal_4 (zap_r zal_5 (zap_r zal_6 (zap_l h)))))))
  rw [show 100 + (240 + (240 + (240 + (240 + (240 + (240 + n)))))) = 1540 + n by omega] at e
  exact zww_of e hg
theorem zat_8 {w : Cond} (n : Nat) (h : tables_1_8[n]? = some w) (hg : goodWord w = true) : z_w w (1780 + n) = true := by
  have e : lw_tbl[100 + (240 + (240 + (240 + (240 + (240 + (240 + (240 + n)))))))]? = some w := zap_r zal_0 (zap_r zal_1 (zap_r zal_2 (zap_r zal_3 (zap_r zal_4 (zap_r zal_5 (zap_r zal_6 (zap_r zal_7 (zap_l h))))))))
  rw [show 100 + (240 + (240 + (240 + (240 + (240 + (240 + (240 + n))))))) = 1780 + n by omega] at e
  exact zww_of e hg
theorem zat_9 {w : Cond} (n : Nat) (h : tables_1_9[n]? = some w) (hg : goodWord w = true) : z_w w (2020 + n) = true := by
  have e : lw_tbl[100 + (240 + (240 + (240 + (240 + (240 + (240 + (240 + (240 + n))))))))]? = some w := zap_r zal_0 (zap_r zal_1 (zap_r zal_2 (zap_r zal_3 (zap_r zal_4 (zap_r zal_5 (zap_r zal_6 (zap_r zal_7 (zap_r zal_8 (h)))))))))
  rw [show 100 + (240 + (240 + (240 + (240 + (240 + (240 + (240 + (240 + n)))))))) = 2020 + n by omega] at e
  exact zww_of e hg
noncomputable def zfcnL : List String := [RX0, RX1, RX2, RX3, RX4, RX5, RX6, RX7, RX8, RX9, RX10, RX11, RX12, RJ6, RJ9, RJ7, RL]
noncomputable def zfcn (c : Nat) : String := match zfcnL[c]? with | some s => s | none => ""
theorem zcm_0 : RX0 ≠ "java/lang/invoke/MethodHandle" ∧ RX0 ≠ "java/lang/invoke/VarHandle" := by decide +kernel
theorem zpn_0 : plainName (zfcn 0) = true := by decide +kernel
theorem zcm_1 : RX1 ≠ "java/lang/invoke/MethodHandle" ∧ RX1 ≠ "java/lang/invoke/VarHandle" := by decide +kernel
theorem zpn_1 : plainName (zfcn 1) = true := by decide +kernel
theorem zcm_2 : RX2 ≠ "java/lang/invoke/MethodHandle" ∧ RX2 ≠ "java/lang/invoke/VarHandle" := by decide +kernel
theorem zpn_2 : plainName (zfcn 2) = true := by decide +kernel
theorem zcm_3 : RX3 ≠ "java/lang/invoke/MethodHandle" ∧ RX3 ≠ "java/lang/invoke/VarHandle" := by decide +kernel
theorem zpn_3 : plainName (zfcn 3) = true := by decide +kernel
theorem zcm_4 : RX4 ≠ "java/lang/invoke/MethodHandle" ∧ RX4 ≠ "java/lang/invoke/VarHandle" := by decide +kernel
theorem zpn_4 : plainName (zfcn 4) = true := by decide +kernel
theorem zcm_5 : RX5 ≠ "java/lang/invoke/MethodHandle" ∧ RX5 ≠ "java/lang/invoke/VarHandle" := by decide +kernel
theorem zpn_5 : plainName (zfcn 5) = true := by decide +kernel
theorem zcm_6 : RX6 ≠ "java/lang/invoke/MethodHandle" ∧ RX6 ≠ "java/lang/invoke/VarHandle" := by decide +kernel
theorem zpn_6 : plainName (zfcn 6) = true := by decide +kernel
theorem zcm_7 : RX7 ≠ "java/lang/invoke/MethodHandle" ∧ RX7 ≠ "java/lang/invoke/VarHandle" := by decide +kernel
theorem zpn_7 : plainName (zfcn 7) = true := by decide +kernel
theorem zcm_8 : RX8 ≠ "java/lang/invoke/MethodHandle" ∧ RX8 ≠ "java/lang/invoke/VarHandle" := by decide +kernel
theorem zpn_8 : plainName (zfcn 8) = true := by decide +kernel
theorem zcm_9 : RX9 ≠ "java/lang/invoke/MethodHandle" ∧ RX9 ≠ "java/lang/invoke/VarHandle" := by decide +kernel
theorem zpn_9 : plainName (zfcn 9) = true := by decide +kernel
theorem zcm_10 : RX10 ≠ "java/lang/invoke/MethodHandle" ∧ RX10 ≠ "java/lang/invoke/VarHandle" := by decide +kernel
theorem zpn_10 : plainName (zfcn 10) = true := by decide +kernel
theorem zcm_11 : RX11 ≠ "java/lang/invoke/MethodHandle" ∧ RX11 ≠ "java/lang/invoke/VarHandle" := by decide +kernel
theorem zpn_11 : plainName (zfcn 11) = true := by decide +kernel
theorem zcm_12 : RX12 ≠ "java/lang/invoke/MethodHandle" ∧ RX12 ≠ "java/lang/invoke/VarHandle" := by decide +kernel
theorem zpn_12 : plainName (zfcn 12) = true := by decide +kernel
theorem zcm_13 : RJ6 ≠ "java/lang/invoke/MethodHandle" ∧ RJ6 ≠ "java/lang/invoke/VarHandle" := by decide +kernel
theorem zcm_14 : RJ9 ≠ "java/lang/invoke/MethodHandle" ∧ RJ9 ≠ "java/lang/invoke/VarHandle" := by decide +kernel
theorem zcm_15 : RJ7 ≠ "java/lang/invoke/MethodHandle" ∧ RJ7 ≠ "java/lang/invoke/VarHandle" := by decide +kernel
theorem zcm_16 : RL ≠ "java/lang/invoke/MethodHandle" ∧ RL ≠ "java/lang/invoke/VarHandle" := by decide +kernel
theorem zpn_16 : plainName (zfcn 16) = true := by decide +kernel
noncomputable def zflb : List Nat → List Nat → Bool
  | [], [] => true
  | a :: as, b :: bs => Nat.beq a b && zflb as bs
  | _, _ => false
theorem zflb_ok : ∀ {a b : List Nat}, zflb a b = true → a = b
  | [], [], _ => rfl
  | [], _ :: _, h => by cases h
  | _ :: _, [], h => by cases h
  | a :: as, b :: bs, h => by
    rw [zflb, Bool.and_eq_true] at h
    rw [Nat.eq_of_beq_eq_true h.1, zflb_ok h.2]
noncomputable def zffi (G : List (List (List Nat))) (h : Nat) (x : List Nat) : Bool := match G[h]? with
  | some L => L.any (fun e => zflb e x)
  | none => false
theorem zffi_ok {P : List Nat → Prop} {G : List (List (List Nat))} (hG : ∀ L ∈ G, ∀ e ∈ L, P e) {h : Nat} {x : List Nat} (hf : zffi G h x = true) : P x := by
  unfold zffi at hf
  split at hf
  · next L hL =>
    obtain ⟨e, he, h2⟩ := List.any_eq_true.mp hf
    rw [← zflb_ok h2]
    exact hG L (List.mem_of_getElem? hL) e he
  · cases hf
noncomputable def zPM (c idx j i : Nat) : Prop := ∀ M', z_ms[j]? = some M' → z_w (.methodLink (zfcn c) idx M'.2.1) i = true
noncomputable def zPMe : List Nat → Prop
  | [c, idx, j, i] => zPM c idx j i
  | _ => True
theorem zPM_of {c idx j i : Nat} {M : zMi} (ha : z_ms[j]? = some M) (h : z_w (.methodLink (zfcn c) idx M.2.1) i = true) : zPMe [c, idx, j, i] := fun M' h' => by
  rw [ha] at h'
  cases h'
  exact h
noncomputable def zP54e : List Nat → Prop
  | [j, n, v, a, b, c, d] => ∃ M', z_ms[j]? = some M' ∧ M'.2.2.2.2.2 = [] ∧ M'.2.1.cls = M'.1 ∧ (vwCl[v]?).map (fun x => x.1) = some M'.1 ∧ z_w (.instanceMethod M'.2.1) a = true ∧ z_w (.selects M'.1 M'.2.1 M'.2.1) b = true ∧ z_w (.initialized M'.1) c = true ∧ z_w (.code M'.2.1 M'.2.2.1 M'.2.2.2.1 M'.2.2.2.2.1) d = true ∧ z_yok M'.2.1 n = true ∧ M'.2.2.2.1 ≤ 41
  | _ => True
noncomputable def zP55e : List Nat → Prop
  | [j, n, a, b, c] => ∃ M', z_ms[j]? = some M' ∧ M'.2.2.2.2.2 = [] ∧ M'.2.1.cls = M'.1 ∧ z_w (.static M'.2.1) a = true ∧ z_w (.initialized M'.1) b = true ∧ z_w (.code M'.2.1 M'.2.2.1 M'.2.2.2.1 M'.2.2.2.2.1) c = true ∧ z_yok M'.2.1 n = true ∧ M'.2.2.2.1 ≤ 41
  | _ => True
noncomputable def zP72e : List Nat → Prop
  | [j, n, a, b, c] => ∃ M', z_ms[j]? = some M' ∧ M'.2.2.2.2.2 ≠ [] ∧ M'.2.1.cls = M'.1 ∧ z_w (.static M'.2.1) a = true ∧ z_w (.initialized M'.1) b = true ∧ z_w (.codeWith M'.2.1 M'.2.2.1 M'.2.2.2.1 M'.2.2.2.2.1 M'.2.2.2.2.2) c = true ∧ z_yok M'.2.1 n = true ∧ M'.2.2.2.1 ≤ 41
  | _ => True
noncomputable def zP37e : List Nat → Prop
  | [c, idx, a, b, i] => ∃ q, vwCl[a]? = some q ∧ b < q.2.2 ∧ z_w (.fieldLink (zfcn c) idx (q.2.1 b).1 (q.2.1 b).2.1 (q.2.1 b).2.2.1) i = true
  | _ => True
noncomputable def zP38e : List Nat → Prop
  | [c, idx, a, b, i, kc] => ∃ q, vwCl[a]? = some q ∧ b < q.2.2 ∧ z_w (.fieldLink (zfcn c) idx (q.2.1 b).1 (q.2.1 b).2.1 (q.2.1 b).2.2.1) i = true ∧ z_kind (kc : Int) (parseFieldDescriptor (q.2.1 b).2.2.1) = true ∧ (q.2.1 b).2.2.2 = false
  | _ => True
theorem zyok_of {y : MethodName} {n : Nat} {s : String} (h : y.cls = s) (h2 : s ≠ "java/lang/invoke/MethodHandle" ∧ s ≠ "java/lang/invoke/VarHandle") (h3 : (parseMethodDescriptor y.desc).map (fun d => d.parameters.length) = some n) : z_yok y n = true := decide_eq_true ⟨h ▸ h2.1, h ▸ h2.2, h3⟩
theorem zap_l9 {A B : List zMi} {n : Nat} {w : zMi} (h : A[n]? = some w) : (A ++ B)[n]? = some w := by
  rw [List.getElem?_append_left (List.getElem?_eq_some_iff.mp h).1]
  exact h
theorem zap_r9 {A B : List zMi} {a n : Nat} {w : zMi} (ha : A.length = a) (h : B[n]? = some w) : (A ++ B)[a + n]? = some w := by
  rw [← ha, List.getElem?_append_right (Nat.le_add_right _ _), Nat.add_sub_cancel_left]
  exact h
theorem zal9_0 : z_ms_0.length = 43 := by decide +kernel
theorem zal9_1 : z_ms_1.length = 43 := by decide +kernel
theorem zal9_2 : z_ms_2.length = 43 := by decide +kernel
theorem zal9_3 : z_ms_3.length = 43 := by decide +kernel
theorem zal9_4 : z_ms_4.length = 43 := by decide +kernel
theorem zal9_5 : z_ms_5.length = 43 := by decide +kernel
theorem zal9_6 : z_ms_6.length = 43 := by decide +kernel
theorem zal9_7 : z_ms_7.length = 43 := by decide +kernel
theorem zmt_0 {w : zMi} (n : Nat) (h : z_ms_0[n]? = some w) : z_ms[0 + n]? = some w := by
  have e : z_ms[n]? = some w := zap_l9 h
  rw [Nat.zero_add]
  exact e
theorem zmt_1 {w : zMi} (n : Nat) (h : z_ms_1[n]? = some w) : z_ms[43 + n]? = some w := by
  have e : z_ms[43 + n]? = some w := zap_r9 zal9_0 (zap_l9 h)
  rw [show 43 + n = 43 + n by omega] at e
  exact e
theorem zmt_2 {w : zMi} (n : Nat) (h : z_ms_2[n]? = some w) : z_ms[86 + n]? = some w := by
  have e : z_ms[43 + (43 + n)]? = some w := zap_r9 zal9_0 (zap_r9 zal9_1 (zap_l9 h))
  rw [show 43 + (43 + n) = 86 + n by omega] at e
  exact e
theorem zmt_3 {w : zMi} (n : Nat) (h : z_ms_3[n]? = some w) : z_ms[129 + n]? = some w := by
  have e : z_ms[43 + (43 + (43 + n))]? = some w := zap_r9 zal9_0 (zap_r9 zal9_1 (zap_r9 zal9_2 (zap_l9 h)))
  rw [show 43 + (43 + (43 + n)) = 129 + n by omega] at e
  exact e
theorem zmt_4 {w : zMi} (n : Nat) (h : z_ms_4[n]? = some w) : z_ms[172 + n]? = some w := by
  have e : z_ms[43 + (43 + (43 + (43 + n)))]? = some w := zap_r9 zal9_0 (zap_r9 zal9_1 (zap_r9 zal9_2 (zap_r9 zal9_3 (zap_l9 h))))
  rw [show 43 + (43 + (43 + (43 + n))) = 172 + n by omega] at e
  exact e
theorem zmt_5 {w : zMi} (n : Nat) (h : z_ms_5[n]? = some w) : z_ms[215 + n]? = some w := by
  have e : z_ms[43 + (43 + (43 + (43 + (43 + n))))]? = some w := zap_r9 zal9_0 (zap_r9 zal9_1 (zap_r9 zal9_2 (zap_r9 zal9_3 (zap_r9 zal9_4 (zap_l9 h)))))
  rw [show 43 + (43 + (43 + (43 + (43 + n)))) = 215 + n by omega] at e
  exact e
theorem zmt_6 {w : zMi} (n : Nat) (h : z_ms_6[n]? = some w) : z_ms[258 + n]? = some w := by
  have e : z_ms[43 + (43 + (43 + (43 + (43 + (43 + n)))))]? = some w := zap_r9 zal9_0 (zap_r9 zal9_1 (zap_r9 zal9_2 (zap_r9 zal9_3 (zap_r9 zal9_4 (zap_r9 zal9_5 (zap_l9 h))))))
  rw [show 43 + (43 + (43 + (43 + (43 + (43 + n))))) = 258 + n by omega] at e
  exact e
theorem zmt_7 {w : zMi} (n : Nat) (h : z_ms_7[n]? = some w) : z_ms[301 + n]? = some w := by
  have e : z_ms[43 + (43 + (43 + (43 + (43 + (43 + (43 + n))))))]? = some w := zap_r9 zal9_0 (zap_r9 zal9_1 (zap_r9 zal9_2 (zap_r9 zal9_3 (zap_r9 zal9_4 (zap_r9 zal9_5 (zap_r9 zal9_6 (zap_l9 h)))))))
  rw [show 43 + (43 + (43 + (43 + (43 + (43 + (43 + n)))))) = 301 + n by omega] at e
  exact e
theorem zmt_8 {w : zMi} (n : Nat) (h : z_ms_8[n]? = some w) : z_ms[344 + n]? = some w := by
  have e : z_ms[43 + (43 + (43 + (43 + (43 + (43 + (43 + (43 + n)))))))]? = some w := zap_r9 zal9_0 (zap_r9 zal9_1 (zap_r9 zal9_2 (zap_r9 zal9_3 (zap_r9 zal9_4 (zap_r9 zal9_5 (zap_r9 zal9_6 (zap_r9 zal9_7 (h))))))))
  rw [show 43 + (43 + (43 + (43 + (43 + (43 + (43 + (43 + n))))))) = 344 + n by omega] at e
  exact e
theorem zca_0 : z_ms[0]? = some z_m0 := zmt_0 0 rfl
theorem zca_1 : z_ms[1]? = some z_m1 := zmt_0 1 rfl
theorem zca_2 : z_ms[2]? = some z_m2 := zmt_0 2 rfl
theorem zca_3 : z_ms[3]? = some z_m3 := zmt_0 3 rfl
theorem zca_4 : z_ms[4]? = some z_m4 := zmt_0 4 rfl
theorem zca_5 : z_ms[5]? = some z_m5 := zmt_0 5 rfl
theorem zca_6 : z_ms[6]? = some z_m6 := zmt_0 6 rfl
theorem zca_8 : z_ms[8]? = some z_m8 := zmt_0 8 rfl
theorem zca_9 : z_ms[9]? = some z_m9 := zmt_0 9 rfl
theorem zca_10 : z_ms[10]? = some z_m10 := zmt_0 10 rfl
theorem zca_11 : z_ms[11]? = some z_m11 := zmt_0 11 rfl
theorem zca_12 : z_ms[12]? = some z_m12 := zmt_0 12 rfl
theorem zca_13 : z_ms[13]? = some z_m13 := zmt_0 13 rfl
theorem zca_14 : z_ms[14]? = some z_m14 := zmt_0 14 rfl
theorem zca_15 : z_ms[15]? = some z_m15 := zmt_0 15 rfl
theorem zca_16 : z_ms[16]? = some z_m16 := zmt_0 16 rfl
theorem zca_17 : z_ms[17]? = some z_m17 := zmt_0 17 rfl
theorem zca_18 : z_ms[18]? = some z_m18 := zmt_0 18 rfl
theorem zca_19 : z_ms[19]? = some z_m19 := zmt_0 19 rfl
theorem zca_20 : z_ms[20]? = some z_m20 := zmt_0 20 rfl
theorem zca_21 : z_ms[21]? = some z_m21 := zmt_0 21 rfl
theorem zca_23 : z_ms[23]? = some z_m23 := zmt_0 23 rfl
theorem zca_24 : z_ms[24]? = some z_m24 := zmt_0 24 rfl
theorem zca_25 : z_ms[25]? = some z_m25 := zmt_0 25 rfl
theorem zca_26 : z_ms[26]? = some z_m26 := zmt_0 26 rfl
theorem zca_27 : z_ms[27]? = some z_m27 := zmt_0 27 rfl
theorem zca_28 : z_ms[28]? = some z_m28 := zmt_0 28 rfl
theorem zca_29 : z_ms[29]? = some z_m29 := zmt_0 29 rfl
theorem zca_30 : z_ms[30]? = some z_m30 := zmt_0 30 rfl
theorem zca_31 : z_ms[31]? = some z_m31 := zmt_0 31 rfl
theorem zca_32 : z_ms[32]? = some z_m32 := zmt_0 32 rfl
theorem zca_33 : z_ms[33]? = some z_m33 := zmt_0 33 rfl
theorem zca_34 : z_ms[34]? = some z_m34 := zmt_0 34 rfl
theorem zca_35 : z_ms[35]? = some z_m35 := zmt_0 35 rfl
theorem zca_36 : z_ms[36]? = some z_m36 := zmt_0 36 rfl
theorem zca_37 : z_ms[37]? = some z_m37 := zmt_0 37 rfl
theorem zca_38 : z_ms[38]? = some z_m38 := zmt_0 38 rfl
theorem zca_39 : z_ms[39]? = some z_m39 := zmt_0 39 rfl
theorem zca_40 : z_ms[40]? = some z_m40 := zmt_0 40 rfl
theorem zca_42 : z_ms[42]? = some z_m42 := zmt_0 42 rfl
theorem zca_43 : z_ms[43]? = some z_m43 := zmt_1 0 rfl
theorem zca_44 : z_ms[44]? = some z_m44 := zmt_1 1 rfl
theorem zca_45 : z_ms[45]? = some z_m45 := zmt_1 2 rfl
theorem zca_47 : z_ms[47]? = some z_m47 := zmt_1 4 rfl
theorem zca_48 : z_ms[48]? = some z_m48 := zmt_1 5 rfl
theorem zca_49 : z_ms[49]? = some z_m49 := zmt_1 6 rfl
theorem zca_50 : z_ms[50]? = some z_m50 := zmt_1 7 rfl
theorem zca_51 : z_ms[51]? = some z_m51 := zmt_1 8 rfl
theorem zca_52 : z_ms[52]? = some z_m52 := zmt_1 9 rfl
theorem zca_53 : z_ms[53]? = some z_m53 := zmt_1 10 rfl
theorem zca_54 : z_ms[54]? = some z_m54 := zmt_1 11 rfl
theorem zca_56 : z_ms[56]? = some z_m56 := zmt_1 13 rfl
theorem zca_57 : z_ms[57]? = some z_m57 := zmt_1 14 rfl
theorem zca_58 : z_ms[58]? = some z_m58 := zmt_1 15 rfl
theorem zca_59 : z_ms[59]? = some z_m59 := zmt_1 16 rfl
theorem zca_60 : z_ms[60]? = some z_m60 := zmt_1 17 rfl
theorem zca_62 : z_ms[62]? = some z_m62 := zmt_1 19 rfl
theorem zca_63 : z_ms[63]? = some z_m63 := zmt_1 20 rfl
theorem zca_64 : z_ms[64]? = some z_m64 := zmt_1 21 rfl
theorem zca_65 : z_ms[65]? = some z_m65 := zmt_1 22 rfl
theorem zca_66 : z_ms[66]? = some z_m66 := zmt_1 23 rfl
theorem zca_67 : z_ms[67]? = some z_m67 := zmt_1 24 rfl
theorem zca_68 : z_ms[68]? = some z_m68 := zmt_1 25 rfl
theorem zca_69 : z_ms[69]? = some z_m69 := zmt_1 26 rfl
theorem zca_70 : z_ms[70]? = some z_m70 := zmt_1 27 rfl
theorem zca_71 : z_ms[71]? = some z_m71 := zmt_1 28 rfl
theorem zca_72 : z_ms[72]? = some z_m72 := zmt_1 29 rfl
theorem zca_73 : z_ms[73]? = some z_m73 := zmt_1 30 rfl
theorem zca_74 : z_ms[74]? = some z_m74 := zmt_1 31 rfl
theorem zca_75 : z_ms[75]? = some z_m75 := zmt_1 32 rfl
theorem zca_76 : z_ms[76]? = some z_m76 := zmt_1 33 rfl
theorem zca_77 : z_ms[77]? = some z_m77 := zmt_1 34 rfl
theorem zca_78 : z_ms[78]? = some z_m78 := zmt_1 35 rfl
theorem zca_79 : z_ms[79]? = some z_m79 := zmt_1 36 rfl
theorem zca_80 : z_ms[80]? = some z_m80 := zmt_1 37 rfl
theorem zca_81 : z_ms[81]? = some z_m81 := zmt_1 38 rfl
theorem zca_82 : z_ms[82]? = some z_m82 := zmt_1 39 rfl
theorem zca_83 : z_ms[83]? = some z_m83 := zmt_1 40 rfl
theorem zca_85 : z_ms[85]? = some z_m85 := zmt_1 42 rfl
theorem zca_86 : z_ms[86]? = some z_m86 := zmt_2 0 rfl
theorem zca_87 : z_ms[87]? = some z_m87 := zmt_2 1 rfl
theorem zca_88 : z_ms[88]? = some z_m88 := zmt_2 2 rfl
theorem zca_89 : z_ms[89]? = some z_m89 := zmt_2 3 rfl
theorem zca_90 : z_ms[90]? = some z_m90 := zmt_2 4 rfl
theorem zca_91 : z_ms[91]? = some z_m91 := zmt_2 5 rfl
theorem zca_92 : z_ms[92]? = some z_m92 := zmt_2 6 rfl
theorem zca_93 : z_ms[93]? = some z_m93 := zmt_2 7 rfl
theorem zca_94 : z_ms[94]? = some z_m94 := zmt_2 8 rfl
theorem zca_95 : z_ms[95]? = some z_m95 := zmt_2 9 rfl
theorem zca_96 : z_ms[96]? = some z_m96 := zmt_2 10 rfl
theorem zca_97 : z_ms[97]? = some z_m97 := zmt_2 11 rfl
theorem zca_98 : z_ms[98]? = some z_m98 := zmt_2 12 rfl
theorem zca_99 : z_ms[99]? = some z_m99 := zmt_2 13 rfl
theorem zca_101 : z_ms[101]? = some z_m101 := zmt_2 15 rfl
theorem zca_102 : z_ms[102]? = some z_m102 := zmt_2 16 rfl
theorem zca_103 : z_ms[103]? = some z_m103 := zmt_2 17 rfl
theorem zca_104 : z_ms[104]? = some z_m104 := zmt_2 18 rfl
theorem zca_105 : z_ms[105]? = some z_m105 := zmt_2 19 rfl
theorem zca_106 : z_ms[106]? = some z_m106 := zmt_2 20 rfl
theorem zca_107 : z_ms[107]? = some z_m107 := zmt_2 21 rfl
theorem zca_108 : z_ms[108]? = some z_m108 := zmt_2 22 rfl
theorem zca_109 : z_ms[109]? = some z_m109 := zmt_2 23 rfl
theorem zca_110 : z_ms[110]? = some z_m110 := zmt_2 24 rfl
theorem zca_111 : z_ms[111]? = some z_m111 := zmt_2 25 rfl
theorem zca_112 : z_ms[112]? = some z_m112 := zmt_2 26 rfl
theorem zca_113 : z_ms[113]? = some z_m113 := zmt_2 27 rfl
theorem zca_114 : z_ms[114]? = some z_m114 := zmt_2 28 rfl
theorem zca_115 : z_ms[115]? = some z_m115 := zmt_2 29 rfl
theorem zca_116 : z_ms[116]? = some z_m116 := zmt_2 30 rfl
theorem zca_118 : z_ms[118]? = some z_m118 := zmt_2 32 rfl
theorem zca_119 : z_ms[119]? = some z_m119 := zmt_2 33 rfl
theorem zca_120 : z_ms[120]? = some z_m120 := zmt_2 34 rfl
theorem zca_121 : z_ms[121]? = some z_m121 := zmt_2 35 rfl
theorem zca_122 : z_ms[122]? = some z_m122 := zmt_2 36 rfl
theorem zca_123 : z_ms[123]? = some z_m123 := zmt_2 37 rfl
theorem zca_124 : z_ms[124]? = some z_m124 := zmt_2 38 rfl
theorem zca_125 : z_ms[125]? = some z_m125 := zmt_2 39 rfl
theorem zca_126 : z_ms[126]? = some z_m126 := zmt_2 40 rfl
theorem zca_127 : z_ms[127]? = some z_m127 := zmt_2 41 rfl
theorem zca_128 : z_ms[128]? = some z_m128 := zmt_2 42 rfl
theorem zca_129 : z_ms[129]? = some z_m129 := zmt_3 0 rfl
theorem zca_130 : z_ms[130]? = some z_m130 := zmt_3 1 rfl
theorem zca_131 : z_ms[131]? = some z_m131 := zmt_3 2 rfl
theorem zca_132 : z_ms[132]? = some z_m132 := zmt_3 3 rfl
theorem zca_133 : z_ms[133]? = some z_m133 := zmt_3 4 rfl
theorem zca_134 : z_ms[134]? = some z_m134 := zmt_3 5 rfl
theorem zca_135 : z_ms[135]? = some z_m135 := zmt_3 6 rfl
theorem zca_136 : z_ms[136]? = some z_m136 := zmt_3 7 rfl
theorem zca_137 : z_ms[137]? = some z_m137 := zmt_3 8 rfl
theorem zca_138 : z_ms[138]? = some z_m138 := zmt_3 9 rfl
theorem zca_139 : z_ms[139]? = some z_m139 := zmt_3 10 rfl
theorem zca_140 : z_ms[140]? = some z_m140 := zmt_3 11 rfl
theorem zca_141 : z_ms[141]? = some z_m141 := zmt_3 12 rfl
theorem zca_142 : z_ms[142]? = some z_m142 := zmt_3 13 rfl
theorem zca_143 : z_ms[143]? = some z_m143 := zmt_3 14 rfl
theorem zca_144 : z_ms[144]? = some z_m144 := zmt_3 15 rfl
theorem zca_145 : z_ms[145]? = some z_m145 := zmt_3 16 rfl
theorem zca_146 : z_ms[146]? = some z_m146 := zmt_3 17 rfl
theorem zca_147 : z_ms[147]? = some z_m147 := zmt_3 18 rfl
theorem zca_148 : z_ms[148]? = some z_m148 := zmt_3 19 rfl
theorem zca_149 : z_ms[149]? = some z_m149 := zmt_3 20 rfl
theorem zca_150 : z_ms[150]? = some z_m150 := zmt_3 21 rfl
theorem zca_151 : z_ms[151]? = some z_m151 := zmt_3 22 rfl
theorem zca_152 : z_ms[152]? = some z_m152 := zmt_3 23 rfl
theorem zca_153 : z_ms[153]? = some z_m153 := zmt_3 24 rfl
theorem zca_154 : z_ms[154]? = some z_m154 := zmt_3 25 rfl
theorem zca_155 : z_ms[155]? = some z_m155 := zmt_3 26 rfl
theorem zca_156 : z_ms[156]? = some z_m156 := zmt_3 27 rfl
theorem zca_157 : z_ms[157]? = some z_m157 := zmt_3 28 rfl
theorem zca_158 : z_ms[158]? = some z_m158 := zmt_3 29 rfl
theorem zca_159 : z_ms[159]? = some z_m159 := zmt_3 30 rfl
theorem zca_160 : z_ms[160]? = some z_m160 := zmt_3 31 rfl
theorem zca_161 : z_ms[161]? = some z_m161 := zmt_3 32 rfl
theorem zca_162 : z_ms[162]? = some z_m162 := zmt_3 33 rfl
theorem zca_163 : z_ms[163]? = some z_m163 := zmt_3 34 rfl
theorem zca_164 : z_ms[164]? = some z_m164 := zmt_3 35 rfl
theorem zca_165 : z_ms[165]? = some z_m165 := zmt_3 36 rfl
theorem zca_166 : z_ms[166]? = some z_m166 := zmt_3 37 rfl
theorem zca_167 : z_ms[167]? = some z_m167 := zmt_3 38 rfl
theorem zca_168 : z_ms[168]? = some z_m168 := zmt_3 39 rfl
theorem zca_169 : z_ms[169]? = some z_m169 := zmt_3 40 rfl
theorem zca_170 : z_ms[170]? = some z_m170 := zmt_3 41 rfl
theorem zca_171 : z_ms[171]? = some z_m171 := zmt_3 42 rfl
theorem zca_172 : z_ms[172]? = some z_m172 := zmt_4 0 rfl
theorem zca_173 : z_ms[173]? = some z_m173 := zmt_4 1 rfl
theorem zca_174 : z_ms[174]? = some z_m174 := zmt_4 2 rfl
theorem zca_175 : z_ms[175]? = some z_m175 := zmt_4 3 rfl
theorem zca_176 : z_ms[176]? = some z_m176 := zmt_4 4 rfl
theorem zca_177 : z_ms[177]? = some z_m177 := zmt_4 5 rfl
theorem zca_178 : z_ms[178]? = some z_m178 := zmt_4 6 rfl
theorem zca_180 : z_ms[180]? = some z_m180 := zmt_4 8 rfl
theorem zca_181 : z_ms[181]? = some z_m181 := zmt_4 9 rfl
theorem zca_182 : z_ms[182]? = some z_m182 := zmt_4 10 rfl
theorem zca_183 : z_ms[183]? = some z_m183 := zmt_4 11 rfl
theorem zca_184 : z_ms[184]? = some z_m184 := zmt_4 12 rfl
theorem zca_185 : z_ms[185]? = some z_m185 := zmt_4 13 rfl
theorem zca_186 : z_ms[186]? = some z_m186 := zmt_4 14 rfl
theorem zca_187 : z_ms[187]? = some z_m187 := zmt_4 15 rfl
theorem zca_188 : z_ms[188]? = some z_m188 := zmt_4 16 rfl
theorem zca_189 : z_ms[189]? = some z_m189 := zmt_4 17 rfl
theorem zca_190 : z_ms[190]? = some z_m190 := zmt_4 18 rfl
theorem zca_191 : z_ms[191]? = some z_m191 := zmt_4 19 rfl
theorem zca_192 : z_ms[192]? = some z_m192 := zmt_4 20 rfl
theorem zca_193 : z_ms[193]? = some z_m193 := zmt_4 21 rfl
theorem zca_194 : z_ms[194]? = some z_m194 := zmt_4 22 rfl
theorem zca_195 : z_ms[195]? = some z_m195 := zmt_4 23 rfl
theorem zca_196 : z_ms[196]? = some z_m196 := zmt_4 24 rfl
theorem zca_197 : z_ms[197]? = some z_m197 := zmt_4 25 rfl
theorem zca_198 : z_ms[198]? = some z_m198 := zmt_4 26 rfl
theorem zca_199 : z_ms[199]? = some z_m199 := zmt_4 27 rfl
theorem zca_200 : z_ms[200]? = some z_m200 := zmt_4 28 rfl
theorem zca_201 : z_ms[201]? = some z_m201 := zmt_4 29 rfl
theorem zca_202 : z_ms[202]? = some z_m202 := zmt_4 30 rfl
theorem zca_203 : z_ms[203]? = some z_m203 := zmt_4 31 rfl
theorem zca_204 : z_ms[204]? = some z_m204 := zmt_4 32 rfl
theorem zca_205 : z_ms[205]? = some z_m205 := zmt_4 33 rfl
theorem zca_206 : z_ms[206]? = some z_m206 := zmt_4 34 rfl
theorem zca_207 : z_ms[207]? = some z_m207 := zmt_4 35 rfl
theorem zca_208 : z_ms[208]? = some z_m208 := zmt_4 36 rfl
theorem zca_209 : z_ms[209]? = some z_m209 := zmt_4 37 rfl
theorem zca_210 : z_ms[210]? = some z_m210 := zmt_4 38 rfl
theorem zca_211 : z_ms[211]? = some z_m211 := zmt_4 39 rfl
theorem zca_212 : z_ms[212]? = some z_m212 := zmt_4 40 rfl
theorem zca_213 : z_ms[213]? = some z_m213 := zmt_4 41 rfl
theorem zca_214 : z_ms[214]? = some z_m214 := zmt_4 42 rfl
theorem zca_215 : z_ms[215]? = some z_m215 := zmt_5 0 rfl
theorem zca_216 : z_ms[216]? = some z_m216 := zmt_5 1 rfl
theorem zca_217 : z_ms[217]? = some z_m217 := zmt_5 2 rfl
theorem zca_218 : z_ms[218]? = some z_m218 := zmt_5 3 rfl
theorem zca_219 : z_ms[219]? = some z_m219 := zmt_5 4 rfl
theorem zca_220 : z_ms[220]? = some z_m220 := zmt_5 5 rfl
theorem zca_221 : z_ms[221]? = some z_m221 := zmt_5 6 rfl
theorem zca_222 : z_ms[222]? = some z_m222 := zmt_5 7 rfl
theorem zca_223 : z_ms[223]? = some z_m223 := zmt_5 8 rfl
theorem zca_224 : z_ms[224]? = some z_m224 := zmt_5 9 rfl
theorem zca_225 : z_ms[225]? = some z_m225 := zmt_5 10 rfl
theorem zca_226 : z_ms[226]? = some z_m226 := zmt_5 11 rfl
theorem zca_227 : z_ms[227]? = some z_m227 := zmt_5 12 rfl
theorem zca_228 : z_ms[228]? = some z_m228 := zmt_5 13 rfl
theorem zca_229 : z_ms[229]? = some z_m229 := zmt_5 14 rfl
theorem zca_230 : z_ms[230]? = some z_m230 := zmt_5 15 rfl
theorem zca_231 : z_ms[231]? = some z_m231 := zmt_5 16 rfl
theorem zca_232 : z_ms[232]? = some z_m232 := zmt_5 17 rfl
theorem zca_233 : z_ms[233]? = some z_m233 := zmt_5 18 rfl
theorem zca_234 : z_ms[234]? = some z_m234 := zmt_5 19 rfl
theorem zca_235 : z_ms[235]? = some z_m235 := zmt_5 20 rfl
theorem zca_236 : z_ms[236]? = some z_m236 := zmt_5 21 rfl
theorem zca_237 : z_ms[237]? = some z_m237 := zmt_5 22 rfl
theorem zca_238 : z_ms[238]? = some z_m238 := zmt_5 23 rfl
theorem zca_239 : z_ms[239]? = some z_m239 := zmt_5 24 rfl
theorem zca_240 : z_ms[240]? = some z_m240 := zmt_5 25 rfl
theorem zca_241 : z_ms[241]? = some z_m241 := zmt_5 26 rfl
theorem zca_242 : z_ms[242]? = some z_m242 := zmt_5 27 rfl
theorem zca_243 : z_ms[243]? = some z_m243 := zmt_5 28 rfl
theorem zca_244 : z_ms[244]? = some z_m244 := zmt_5 29 rfl
theorem zca_245 : z_ms[245]? = some z_m245 := zmt_5 30 rfl
theorem zca_246 : z_ms[246]? = some z_m246 := zmt_5 31 rfl
theorem zca_247 : z_ms[247]? = some z_m247 := zmt_5 32 rfl
theorem zca_248 : z_ms[248]? = some z_m248 := zmt_5 33 rfl
theorem zca_249 : z_ms[249]? = some z_m249 := zmt_5 34 rfl
theorem zca_250 : z_ms[250]? = some z_m250 := zmt_5 35 rfl
theorem zca_251 : z_ms[251]? = some z_m251 := zmt_5 36 rfl
theorem zca_252 : z_ms[252]? = some z_m252 := zmt_5 37 rfl
theorem zca_253 : z_ms[253]? = some z_m253 := zmt_5 38 rfl
theorem zca_254 : z_ms[254]? = some z_m254 := zmt_5 39 rfl
theorem zca_255 : z_ms[255]? = some z_m255 := zmt_5 40 rfl
theorem zca_256 : z_ms[256]? = some z_m256 := zmt_5 41 rfl
theorem zca_257 : z_ms[257]? = some z_m257 := zmt_5 42 rfl
theorem zca_258 : z_ms[258]? = some z_m258 := zmt_6 0 rfl
theorem zca_259 : z_ms[259]? = some z_m259 := zmt_6 1 rfl
theorem zca_260 : z_ms[260]? = some z_m260 := zmt_6 2 rfl
theorem zca_261 : z_ms[261]? = some z_m261 := zmt_6 3 rfl
theorem zca_262 : z_ms[262]? = some z_m262 := zmt_6 4 rfl
theorem zca_263 : z_ms[263]? = some z_m263 := zmt_6 5 rfl
theorem zca_264 : z_ms[264]? = some z_m264 := zmt_6 6 rfl
theorem zca_265 : z_ms[265]? = some z_m265 := zmt_6 7 rfl
theorem zca_266 : z_ms[266]? = some z_m266 := zmt_6 8 rfl
theorem zca_267 : z_ms[267]? = some z_m267 := zmt_6 9 rfl
theorem zca_268 : z_ms[268]? = some z_m268 := zmt_6 10 rfl
theorem zca_269 : z_ms[269]? = some z_m269 := zmt_6 11 rfl
theorem zca_270 : z_ms[270]? = some z_m270 := zmt_6 12 rfl
theorem zca_271 : z_ms[271]? = some z_m271 := zmt_6 13 rfl
theorem zca_272 : z_ms[272]? = some z_m272 := zmt_6 14 rfl
theorem zca_273 : z_ms[273]? = some z_m273 := zmt_6 15 rfl
theorem zca_274 : z_ms[274]? = some z_m274 := zmt_6 16 rfl
theorem zca_275 : z_ms[275]? = some z_m275 := zmt_6 17 rfl
theorem zca_276 : z_ms[276]? = some z_m276 := zmt_6 18 rfl
theorem zca_277 : z_ms[277]? = some z_m277 := zmt_6 19 rfl
theorem zca_278 : z_ms[278]? = some z_m278 := zmt_6 20 rfl
theorem zca_279 : z_ms[279]? = some z_m279 := zmt_6 21 rfl
theorem zca_280 : z_ms[280]? = some z_m280 := zmt_6 22 rfl
theorem zca_281 : z_ms[281]? = some z_m281 := zmt_6 23 rfl
theorem zca_282 : z_ms[282]? = some z_m282 := zmt_6 24 rfl
theorem zca_283 : z_ms[283]? = some z_m283 := zmt_6 25 rfl
theorem zca_284 : z_ms[284]? = some z_m284 := zmt_6 26 rfl
theorem zca_285 : z_ms[285]? = some z_m285 := zmt_6 27 rfl
theorem zca_286 : z_ms[286]? = some z_m286 := zmt_6 28 rfl
theorem zca_287 : z_ms[287]? = some z_m287 := zmt_6 29 rfl
theorem zca_288 : z_ms[288]? = some z_m288 := zmt_6 30 rfl
theorem zca_289 : z_ms[289]? = some z_m289 := zmt_6 31 rfl
theorem zca_290 : z_ms[290]? = some z_m290 := zmt_6 32 rfl
theorem zca_291 : z_ms[291]? = some z_m291 := zmt_6 33 rfl
theorem zca_292 : z_ms[292]? = some z_m292 := zmt_6 34 rfl
theorem zca_293 : z_ms[293]? = some z_m293 := zmt_6 35 rfl
theorem zca_294 : z_ms[294]? = some z_m294 := zmt_6 36 rfl
theorem zca_295 : z_ms[295]? = some z_m295 := zmt_6 37 rfl
theorem zca_296 : z_ms[296]? = some z_m296 := zmt_6 38 rfl
theorem zca_297 : z_ms[297]? = some z_m297 := zmt_6 39 rfl
theorem zca_298 : z_ms[298]? = some z_m298 := zmt_6 40 rfl
theorem zca_299 : z_ms[299]? = some z_m299 := zmt_6 41 rfl
theorem zca_300 : z_ms[300]? = some z_m300 := zmt_6 42 rfl
theorem zca_301 : z_ms[301]? = some z_m301 := zmt_7 0 rfl
theorem zca_302 : z_ms[302]? = some z_m302 := zmt_7 1 rfl
theorem zca_303 : z_ms[303]? = some z_m303 := zmt_7 2 rfl
theorem zca_304 : z_ms[304]? = some z_m304 := zmt_7 3 rfl
theorem zca_305 : z_ms[305]? = some z_m305 := zmt_7 4 rfl
theorem zca_306 : z_ms[306]? = some z_m306 := zmt_7 5 rfl
theorem zca_307 : z_ms[307]? = some z_m307 := zmt_7 6 rfl
theorem zca_308 : z_ms[308]? = some z_m308 := zmt_7 7 rfl
theorem zca_309 : z_ms[309]? = some z_m309 := zmt_7 8 rfl
theorem zca_310 : z_ms[310]? = some z_m310 := zmt_7 9 rfl
theorem zca_311 : z_ms[311]? = some z_m311 := zmt_7 10 rfl
theorem zca_312 : z_ms[312]? = some z_m312 := zmt_7 11 rfl
theorem zca_313 : z_ms[313]? = some z_m313 := zmt_7 12 rfl
theorem zca_314 : z_ms[314]? = some z_m314 := zmt_7 13 rfl
theorem zca_315 : z_ms[315]? = some z_m315 := zmt_7 14 rfl
theorem zca_316 : z_ms[316]? = some z_m316 := zmt_7 15 rfl
theorem zca_317 : z_ms[317]? = some z_m317 := zmt_7 16 rfl
theorem zca_318 : z_ms[318]? = some z_m318 := zmt_7 17 rfl
theorem zca_319 : z_ms[319]? = some z_m319 := zmt_7 18 rfl
theorem zca_320 : z_ms[320]? = some z_m320 := zmt_7 19 rfl
theorem zca_321 : z_ms[321]? = some z_m321 := zmt_7 20 rfl
theorem zca_322 : z_ms[322]? = some z_m322 := zmt_7 21 rfl
theorem zca_323 : z_ms[323]? = some z_m323 := zmt_7 22 rfl
theorem zca_324 : z_ms[324]? = some z_m324 := zmt_7 23 rfl
theorem zca_325 : z_ms[325]? = some z_m325 := zmt_7 24 rfl
theorem zca_326 : z_ms[326]? = some z_m326 := zmt_7 25 rfl
theorem zca_327 : z_ms[327]? = some z_m327 := zmt_7 26 rfl
theorem zca_328 : z_ms[328]? = some z_m328 := zmt_7 27 rfl
theorem zca_329 : z_ms[329]? = some z_m329 := zmt_7 28 rfl
theorem zca_330 : z_ms[330]? = some z_m330 := zmt_7 29 rfl
theorem zca_331 : z_ms[331]? = some z_m331 := zmt_7 30 rfl
theorem zca_332 : z_ms[332]? = some z_m332 := zmt_7 31 rfl
theorem zca_333 : z_ms[333]? = some z_m333 := zmt_7 32 rfl
theorem zca_334 : z_ms[334]? = some z_m334 := zmt_7 33 rfl
theorem zca_335 : z_ms[335]? = some z_m335 := zmt_7 34 rfl
theorem zca_336 : z_ms[336]? = some z_m336 := zmt_7 35 rfl
theorem zca_337 : z_ms[337]? = some z_m337 := zmt_7 36 rfl
theorem zca_338 : z_ms[338]? = some z_m338 := zmt_7 37 rfl
theorem zca_339 : z_ms[339]? = some z_m339 := zmt_7 38 rfl
theorem zca_340 : z_ms[340]? = some z_m340 := zmt_7 39 rfl
theorem zca_341 : z_ms[341]? = some z_m341 := zmt_7 40 rfl
theorem zca_342 : z_ms[342]? = some z_m342 := zmt_7 41 rfl
theorem zca_344 : z_ms[344]? = some z_m344 := zmt_8 0 rfl
noncomputable def zgML_0 : List (List Nat) := []
theorem zgMA_0 : ∀ e ∈ zgML_0, zPMe e := fun _ h => absurd h List.not_mem_nil
noncomputable def zgML_1 : List (List Nat) := []
theorem zgMA_1 : ∀ e ∈ zgML_1, zPMe e := fun _ h => absurd h List.not_mem_nil
noncomputable def zgML_2 : List (List Nat) := []
theorem zgMA_2 : ∀ e ∈ zgML_2, zPMe e := fun _ h => absurd h List.not_mem_nil
noncomputable def zgML_3 : List (List Nat) := []
theorem zgMA_3 : ∀ e ∈ zgML_3, zPMe e := fun _ h => absurd h List.not_mem_nil
noncomputable def zgML_4 : List (List Nat) := []
theorem zgMA_4 : ∀ e ∈ zgML_4, zPMe e := fun _ h => absurd h List.not_mem_nil
noncomputable def zgML_5 : List (List Nat) := []
theorem zgMA_5 : ∀ e ∈ zgML_5, zPMe e := fun _ h => absurd h List.not_mem_nil
noncomputable def zgML_6 : List (List Nat) := []
theorem zgMA_6 : ∀ e ∈ zgML_6, zPMe e := fun _ h => absurd h List.not_mem_nil
noncomputable def zgML_7 : List (List Nat) := []
theorem zgMA_7 : ∀ e ∈ zgML_7, zPMe e := fun _ h => absurd h List.not_mem_nil
theorem zgM_8_0 : zPMe [2, 82, 313, 266] := zPM_of zca_313 (zat_1 166 rfl rfl)
noncomputable def zgML_8 : List (List Nat) := [[2, 82, 313, 266]]
theorem zgMA_8 : ∀ e ∈ zgML_8, zPMe e := List.forall_mem_cons.mpr ⟨zgM_8_0, fun _ h => absurd h List.not_mem_nil⟩
noncomputable def zgML_9 : List (List Nat) := []
theorem zgMA_9 : ∀ e ∈ zgML_9, zPMe e := fun _ h => absurd h List.not_mem_nil
noncomputable def zgML_10 : List (List Nat) := []
theorem zgMA_10 : ∀ e ∈ zgML_10, zPMe e := fun _ h => absurd h List.not_mem_nil
noncomputable def zgML_11 : List (List Nat) := []
theorem zgMA_11 : ∀ e ∈ zgML_11, zPMe e := fun _ h => absurd h List.not_mem_nil
theorem zgM_12_0 : zPMe [6, 23, 23, 415] := zPM_of zca_23 (zat_2 75 rfl rfl)
theorem zgM_12_1 : zPMe [11, 54, 85, 395] := zPM_of zca_85 (zat_2 55 rfl rfl)
theorem zgM_12_2 : zPMe [11, 194, 62, 411] := zPM_of zca_62 (zat_2 71 rfl rfl)
theorem zgM_12_3 : zPMe [16, 113, 118, 391] := zPM_of zca_118 (zat_2 51 rfl rfl)
theorem zgM_12_4 : zPMe [16, 118, 119, 399] := zPM_of zca_119 (zat_2 59 rfl rfl)
theorem zgM_12_5 : zPMe [16, 132, 122, 403] := zPM_of zca_122 (zat_2 63 rfl rfl)
theorem zgM_12_6 : zPMe [16, 175, 134, 407] := zPM_of zca_134 (zat_2 67 rfl rfl)
noncomputable def zgML_12 : List (List Nat) := [[6, 23, 23, 415], [11, 54, 85, 395], [11, 194, 62, 411], [16, 113, 118, 391], [16, 118, 119, 399], [16, 132, 122, 403], [16, 175, 134, 407]]
theorem zgMA_12 : ∀ e ∈ zgML_12, zPMe e := List.forall_mem_cons.mpr ⟨zgM_12_0, List.forall_mem_cons.mpr ⟨zgM_12_1, List.forall_mem_cons.mpr ⟨zgM_12_2, List.forall_mem_cons.mpr ⟨zgM_12_3, List.forall_mem_cons.mpr ⟨zgM_12_4, List.forall_mem_cons.mpr ⟨zgM_12_5, List.forall_mem_cons.mpr ⟨zgM_12_6, fun _ h => absurd h List.not_mem_nil⟩⟩⟩⟩⟩⟩⟩
theorem zgM_13_0 : zPMe [2, 94, 8, 422] := zPM_of zca_8 (zat_2 82 rfl rfl)
theorem zgM_13_1 : zPMe [2, 98, 101, 427] := zPM_of zca_101 (zat_2 87 rfl rfl)
theorem zgM_13_2 : zPMe [2, 101, 56, 432] := zPM_of zca_56 (zat_2 92 rfl rfl)
theorem zgM_13_3 : zPMe [7, 22, 26, 447] := zPM_of zca_26 (zat_2 107 rfl rfl)
theorem zgM_13_4 : zPMe [11, 230, 69, 444] := zPM_of zca_69 (zat_2 104 rfl rfl)
theorem zgM_13_5 : zPMe [16, 182, 136, 440] := zPM_of zca_136 (zat_2 100 rfl rfl)
noncomputable def zgML_13 : List (List Nat) := [[2, 94, 8, 422], [2, 98, 101, 427], [2, 101, 56, 432], [7, 22, 26, 447], [11, 230, 69, 444], [16, 182, 136, 440]]
theorem zgMA_13 : ∀ e ∈ zgML_13, zPMe e := List.forall_mem_cons.mpr ⟨zgM_13_0, List.forall_mem_cons.mpr ⟨zgM_13_1, List.forall_mem_cons.mpr ⟨zgM_13_2, List.forall_mem_cons.mpr ⟨zgM_13_3, List.forall_mem_cons.mpr ⟨zgM_13_4, List.forall_mem_cons.mpr ⟨zgM_13_5, fun _ h => absurd h List.not_mem_nil⟩⟩⟩⟩⟩⟩
theorem zgM_14_0 : zPMe [2, 107, 312, 451] := zPM_of zca_312 (zat_2 111 rfl rfl)
theorem zgM_14_1 : zPMe [7, 25, 28, 466] := zPM_of zca_28 (zat_2 126 rfl rfl)
theorem zgM_14_2 : zPMe [7, 35, 11, 462] := zPM_of zca_11 (zat_2 122 rfl rfl)
theorem zgM_14_3 : zPMe [7, 61, 15, 477] := zPM_of zca_15 (zat_2 137 rfl rfl)
theorem zgM_14_4 : zPMe [11, 238, 71, 458] := zPM_of zca_71 (zat_2 118 rfl rfl)
theorem zgM_14_5 : zPMe [11, 241, 76, 474] := zPM_of zca_76 (zat_2 134 rfl rfl)
theorem zgM_14_6 : zPMe [16, 189, 138, 454] := zPM_of zca_138 (zat_2 114 rfl rfl)
theorem zgM_14_7 : zPMe [16, 193, 139, 470] := zPM_of zca_139 (zat_2 130 rfl rfl)
noncomputable def zgML_14 : List (List Nat) := [[2, 107, 312, 451], [7, 25, 28, 466], [7, 35, 11, 462], [7, 61, 15, 477], [11, 238, 71, 458], [11, 241, 76, 474], [16, 189, 138, 454], [16, 193, 139, 470]]
theorem zgMA_14 : ∀ e ∈ zgML_14, zPMe e := List.forall_mem_cons.mpr ⟨zgM_14_0, List.forall_mem_cons.mpr ⟨zgM_14_1, List.forall_mem_cons.mpr ⟨zgM_14_2, List.forall_mem_cons.mpr ⟨zgM_14_3, List.forall_mem_cons.mpr ⟨zgM_14_4, List.forall_mem_cons.mpr ⟨zgM_14_5, List.forall_mem_cons.mpr ⟨zgM_14_6, List.forall_mem_cons.mpr ⟨zgM_14_7, fun _ h => absurd h List.not_mem_nil⟩⟩⟩⟩⟩⟩⟩⟩
theorem zgM_15_0 : zPMe [1, 38, 9, 505] := zPM_of zca_9 (zat_2 165 rfl rfl)
theorem zgM_15_1 : zPMe [7, 48, 311, 481] := zPM_of zca_311 (zat_2 141 rfl rfl)
theorem zgM_15_2 : zPMe [7, 69, 78, 495] := zPM_of zca_78 (zat_2 155 rfl rfl)
theorem zgM_15_3 : zPMe [7, 72, 79, 498] := zPM_of zca_79 (zat_2 158 rfl rfl)
theorem zgM_15_4 : zPMe [7, 76, 14, 501] := zPM_of zca_14 (zat_2 161 rfl rfl)
theorem zgM_15_5 : zPMe [11, 244, 77, 492] := zPM_of zca_77 (zat_2 152 rfl rfl)
theorem zgM_15_6 : zPMe [16, 197, 140, 488] := zPM_of zca_140 (zat_2 148 rfl rfl)
theorem zgM_15_7 : zPMe [16, 201, 141, 509] := zPM_of zca_141 (zat_2 169 rfl rfl)
noncomputable def zgML_15 : List (List Nat) := [[1, 38, 9, 505], [7, 48, 311, 481], [7, 69, 78, 495], [7, 72, 79, 498], [7, 76, 14, 501], [11, 244, 77, 492], [16, 197, 140, 488], [16, 201, 141, 509]]
theorem zgMA_15 : ∀ e ∈ zgML_15, zPMe e := List.forall_mem_cons.mpr ⟨zgM_15_0, List.forall_mem_cons.mpr ⟨zgM_15_1, List.forall_mem_cons.mpr ⟨zgM_15_2, List.forall_mem_cons.mpr ⟨zgM_15_3, List.forall_mem_cons.mpr ⟨zgM_15_4, List.forall_mem_cons.mpr ⟨zgM_15_5, List.forall_mem_cons.mpr ⟨zgM_15_6, List.forall_mem_cons.mpr ⟨zgM_15_7, fun _ h => absurd h List.not_mem_nil⟩⟩⟩⟩⟩⟩⟩⟩
theorem zgM_16_0 : zPMe [1, 51, 20, 537] := zPM_of zca_20 (zat_2 197 rfl rfl)
theorem zgM_16_1 : zPMe [1, 55, 311, 541] := zPM_of zca_311 (zat_2 201 rfl rfl)
theorem zgM_16_2 : zPMe [7, 80, 71, 516] := zPM_of zca_71 (zat_2 176 rfl rfl)
theorem zgM_16_3 : zPMe [10, 9, 28, 524] := zPM_of zca_28 (zat_2 184 rfl rfl)
theorem zgM_16_4 : zPMe [10, 20, 15, 526] := zPM_of zca_15 (zat_2 186 rfl rfl)
theorem zgM_16_5 : zPMe [10, 26, 311, 528] := zPM_of zca_311 (zat_2 188 rfl rfl)
theorem zgM_16_6 : zPMe [11, 247, 80, 513] := zPM_of zca_80 (zat_2 173 rfl rfl)
theorem zgM_16_7 : zPMe [11, 250, 110, 521] := zPM_of zca_110 (zat_2 181 rfl rfl)
theorem zgM_16_8 : zPMe [11, 277, 21, 533] := zPM_of zca_21 (zat_2 193 rfl rfl)
theorem zgM_16_9 : zPMe [16, 205, 142, 517] := zPM_of zca_142 (zat_2 177 rfl rfl)
theorem zgM_16_10 : zPMe [16, 222, 147, 529] := zPM_of zca_147 (zat_2 189 rfl rfl)
theorem zgM_16_11 : zPMe [16, 226, 148, 542] := zPM_of zca_148 (zat_2 202 rfl rfl)
noncomputable def zgML_16 : List (List Nat) := [[1, 51, 20, 537], [1, 55, 311, 541], [7, 80, 71, 516], [10, 9, 28, 524], [10, 20, 15, 526], [10, 26, 311, 528], [11, 247, 80, 513], [11, 250, 110, 521], [11, 277, 21, 533], [16, 205, 142, 517], [16, 222, 147, 529], [16, 226, 148, 542]]
theorem zgMA_16 : ∀ e ∈ zgML_16, zPMe e := List.forall_mem_cons.mpr ⟨zgM_16_0, List.forall_mem_cons.mpr ⟨zgM_16_1, List.forall_mem_cons.mpr ⟨zgM_16_2, List.forall_mem_cons.mpr ⟨zgM_16_3, List.forall_mem_cons.mpr ⟨zgM_16_4, List.forall_mem_cons.mpr ⟨zgM_16_5, List.forall_mem_cons.mpr ⟨zgM_16_6, List.forall_mem_cons.mpr ⟨zgM_16_7, List.forall_mem_cons.mpr ⟨zgM_16_8, List.forall_mem_cons.mpr ⟨zgM_16_9, List.forall_mem_cons.mpr ⟨zgM_16_10, List.forall_mem_cons.mpr ⟨zgM_16_11, fun _ h => absurd h List.not_mem_nil⟩⟩⟩⟩⟩⟩⟩⟩⟩⟩⟩⟩
theorem zgM_17_0 : zPMe [7, 28, 67, 552] := zPM_of zca_67 (zat_2 212 rfl rfl)
theorem zgM_17_1 : zPMe [7, 44, 70, 549] := zPM_of zca_70 (zat_2 209 rfl rfl)
theorem zgM_17_2 : zPMe [11, 203, 27, 573] := zPM_of zca_27 (zat_2 233 rfl rfl)
theorem zgM_17_3 : zPMe [11, 280, 72, 546] := zPM_of zca_72 (zat_2 206 rfl rfl)
theorem zgM_17_4 : zPMe [11, 286, 75, 559] := zPM_of zca_75 (zat_2 219 rfl rfl)
theorem zgM_17_5 : zPMe [11, 292, 116, 566] := zPM_of zca_116 (zat_2 226 rfl rfl)
theorem zgM_17_6 : zPMe [16, 233, 150, 555] := zPM_of zca_150 (zat_2 215 rfl rfl)
theorem zgM_17_7 : zPMe [16, 249, 155, 562] := zPM_of zca_155 (zat_2 222 rfl rfl)
theorem zgM_17_8 : zPMe [16, 253, 156, 569] := zPM_of zca_156 (zat_2 229 rfl rfl)
noncomputable def zgML_17 : List (List Nat) := [[7, 28, 67, 552], [7, 44, 70, 549], [11, 203, 27, 573], [11, 280, 72, 546], [11, 286, 75, 559], [11, 292, 116, 566], [16, 233, 150, 555], [16, 249, 155, 562], [16, 253, 156, 569]]
theorem zgMA_17 : ∀ e ∈ zgML_17, zPMe e := List.forall_mem_cons.mpr ⟨zgM_17_0, List.forall_mem_cons.mpr ⟨zgM_17_1, List.forall_mem_cons.mpr ⟨zgM_17_2, List.forall_mem_cons.mpr ⟨zgM_17_3, List.forall_mem_cons.mpr ⟨zgM_17_4, List.forall_mem_cons.mpr ⟨zgM_17_5, List.forall_mem_cons.mpr ⟨zgM_17_6, List.forall_mem_cons.mpr ⟨zgM_17_7, List.forall_mem_cons.mpr ⟨zgM_17_8, fun _ h => absurd h List.not_mem_nil⟩⟩⟩⟩⟩⟩⟩⟩⟩
theorem zgM_18_0 : zPMe [2, 113, 26, 577] := zPM_of zca_26 (zat_2 237 rfl rfl)
theorem zgM_18_1 : zPMe [11, 58, 23, 598] := zPM_of zca_23 (zat_3 18 rfl rfl)
theorem zgM_18_2 : zPMe [11, 83, 64, 603] := zPM_of zca_64 (zat_3 23 rfl rfl)
theorem zgM_18_3 : zPMe [11, 295, 109, 578] := zPM_of zca_109 (zat_2 238 rfl rfl)
theorem zgM_18_4 : zPMe [11, 330, 63, 590] := zPM_of zca_63 (zat_3 10 rfl rfl)
theorem zgM_18_5 : zPMe [16, 270, 161, 582] := zPM_of zca_161 (zat_3 2 rfl rfl)
theorem zgM_18_6 : zPMe [16, 274, 162, 586] := zPM_of zca_162 (zat_3 6 rfl rfl)
theorem zgM_18_7 : zPMe [16, 279, 163, 594] := zPM_of zca_163 (zat_3 14 rfl rfl)
theorem zgM_18_8 : zPMe [16, 283, 164, 599] := zPM_of zca_164 (zat_3 19 rfl rfl)
theorem zgM_18_9 : zPMe [16, 287, 165, 607] := zPM_of zca_165 (zat_3 27 rfl rfl)
noncomputable def zgML_18 : List (List Nat) := [[2, 113, 26, 577], [11, 58, 23, 598], [11, 83, 64, 603], [11, 295, 109, 578], [11, 330, 63, 590], [16, 270, 161, 582], [16, 274, 162, 586], [16, 279, 163, 594], [16, 283, 164, 599], [16, 287, 165, 607]]
theorem zgMA_18 : ∀ e ∈ zgML_18, zPMe e := List.forall_mem_cons.mpr ⟨zgM_18_0, List.forall_mem_cons.mpr ⟨zgM_18_1, List.forall_mem_cons.mpr ⟨zgM_18_2, List.forall_mem_cons.mpr ⟨zgM_18_3, List.forall_mem_cons.mpr ⟨zgM_18_4, List.forall_mem_cons.mpr ⟨zgM_18_5, List.forall_mem_cons.mpr ⟨zgM_18_6, List.forall_mem_cons.mpr ⟨zgM_18_7, List.forall_mem_cons.mpr ⟨zgM_18_8, List.forall_mem_cons.mpr ⟨zgM_18_9, fun _ h => absurd h List.not_mem_nil⟩⟩⟩⟩⟩⟩⟩⟩⟩⟩
theorem zgM_19_0 : zPMe [0, 9, 87, 631] := zPM_of zca_87 (zat_3 51 rfl rfl)
theorem zgM_19_1 : zPMe [0, 14, 89, 639] := zPM_of zca_89 (zat_3 59 rfl rfl)
theorem zgM_19_2 : zPMe [8, 25, 97, 635] := zPM_of zca_97 (zat_3 55 rfl rfl)
theorem zgM_19_3 : zPMe [11, 62, 0, 628] := zPM_of zca_0 (zat_3 48 rfl rfl)
theorem zgM_19_4 : zPMe [11, 338, 25, 611] := zPM_of zca_25 (zat_3 31 rfl rfl)
theorem zgM_19_5 : zPMe [11, 348, 24, 615] := zPM_of zca_24 (zat_3 35 rfl rfl)
theorem zgM_19_6 : zPMe [16, 7, 120, 624] := zPM_of zca_120 (zat_3 44 rfl rfl)
theorem zgM_19_7 : zPMe [16, 123, 315, 619] := zPM_of zca_315 (zat_3 39 rfl rfl)
noncomputable def zgML_19 : List (List Nat) := [[0, 9, 87, 631], [0, 14, 89, 639], [8, 25, 97, 635], [11, 62, 0, 628], [11, 338, 25, 611], [11, 348, 24, 615], [16, 7, 120, 624], [16, 123, 315, 619]]
theorem zgMA_19 : ∀ e ∈ zgML_19, zPMe e := List.forall_mem_cons.mpr ⟨zgM_19_0, List.forall_mem_cons.mpr ⟨zgM_19_1, List.forall_mem_cons.mpr ⟨zgM_19_2, List.forall_mem_cons.mpr ⟨zgM_19_3, List.forall_mem_cons.mpr ⟨zgM_19_4, List.forall_mem_cons.mpr ⟨zgM_19_5, List.forall_mem_cons.mpr ⟨zgM_19_6, List.forall_mem_cons.mpr ⟨zgM_19_7, fun _ h => absurd h List.not_mem_nil⟩⟩⟩⟩⟩⟩⟩⟩
theorem zgM_20_0 : zPMe [0, 20, 1, 643] := zPM_of zca_1 (zat_3 63 rfl rfl)
theorem zgM_20_1 : zPMe [0, 41, 10, 646] := zPM_of zca_10 (zat_3 66 rfl rfl)
theorem zgM_20_2 : zPMe [0, 48, 91, 651] := zPM_of zca_91 (zat_3 71 rfl rfl)
theorem zgM_20_3 : zPMe [8, 33, 86, 665] := zPM_of zca_86 (zat_3 85 rfl rfl)
theorem zgM_20_4 : zPMe [8, 37, 98, 669] := zPM_of zca_98 (zat_3 89 rfl rfl)
noncomputable def zgML_20 : List (List Nat) := [[0, 20, 1, 643], [0, 41, 10, 646], [0, 48, 91, 651], [8, 33, 86, 665], [8, 37, 98, 669]]
theorem zgMA_20 : ∀ e ∈ zgML_20, zPMe e := List.forall_mem_cons.mpr ⟨zgM_20_0, List.forall_mem_cons.mpr ⟨zgM_20_1, List.forall_mem_cons.mpr ⟨zgM_20_2, List.forall_mem_cons.mpr ⟨zgM_20_3, List.forall_mem_cons.mpr ⟨zgM_20_4, fun _ h => absurd h List.not_mem_nil⟩⟩⟩⟩⟩
noncomputable def zgML_21 : List (List Nat) := []
theorem zgMA_21 : ∀ e ∈ zgML_21, zPMe e := fun _ h => absurd h List.not_mem_nil
theorem zgM_22_0 : zPMe [0, 52, 3, 710] := zPM_of zca_3 (zat_3 130 rfl rfl)
theorem zgM_22_1 : zPMe [0, 93, 96, 723] := zPM_of zca_96 (zat_3 143 rfl rfl)
theorem zgM_22_2 : zPMe [0, 118, 92, 714] := zPM_of zca_92 (zat_3 134 rfl rfl)
theorem zgM_22_3 : zPMe [0, 126, 12, 732] := zPM_of zca_12 (zat_3 152 rfl rfl)
theorem zgM_22_4 : zPMe [8, 45, 91, 718] := zPM_of zca_91 (zat_3 138 rfl rfl)
theorem zgM_22_5 : zPMe [8, 49, 90, 719] := zPM_of zca_90 (zat_3 139 rfl rfl)
theorem zgM_22_6 : zPMe [8, 56, 99, 727] := zPM_of zca_99 (zat_3 147 rfl rfl)
noncomputable def zgML_22 : List (List Nat) := [[0, 52, 3, 710], [0, 93, 96, 723], [0, 118, 92, 714], [0, 126, 12, 732], [8, 45, 91, 718], [8, 49, 90, 719], [8, 56, 99, 727]]
theorem zgMA_22 : ∀ e ∈ zgML_22, zPMe e := List.forall_mem_cons.mpr ⟨zgM_22_0, List.forall_mem_cons.mpr ⟨zgM_22_1, List.forall_mem_cons.mpr ⟨zgM_22_2, List.forall_mem_cons.mpr ⟨zgM_22_3, List.forall_mem_cons.mpr ⟨zgM_22_4, List.forall_mem_cons.mpr ⟨zgM_22_5, List.forall_mem_cons.mpr ⟨zgM_22_6, fun _ h => absurd h List.not_mem_nil⟩⟩⟩⟩⟩⟩⟩
theorem zgM_23_0 : zPMe [0, 59, 103, 752] := zPM_of zca_103 (zat_3 172 rfl rfl)
theorem zgM_23_1 : zPMe [0, 64, 4, 757] := zPM_of zca_4 (zat_3 177 rfl rfl)
theorem zgM_23_2 : zPMe [0, 69, 5, 760] := zPM_of zca_5 (zat_3 180 rfl rfl)
theorem zgM_23_3 : zPMe [0, 73, 6, 738] := zPM_of zca_6 (zat_3 158 rfl rfl)
theorem zgM_23_4 : zPMe [0, 77, 29, 743] := zPM_of zca_29 (zat_3 163 rfl rfl)
theorem zgM_23_5 : zPMe [0, 85, 13, 748] := zPM_of zca_13 (zat_3 168 rfl rfl)
theorem zgM_23_6 : zPMe [0, 134, 104, 765] := zPM_of zca_104 (zat_3 185 rfl rfl)
theorem zgM_23_7 : zPMe [0, 143, 312, 742] := zPM_of zca_312 (zat_3 162 rfl rfl)
theorem zgM_23_8 : zPMe [1, 34, 10, 736] := zPM_of zca_10 (zat_3 156 rfl rfl)
noncomputable def zgML_23 : List (List Nat) := [[0, 59, 103, 752], [0, 64, 4, 757], [0, 69, 5, 760], [0, 73, 6, 738], [0, 77, 29, 743], [0, 85, 13, 748], [0, 134, 104, 765], [0, 143, 312, 742], [1, 34, 10, 736]]
theorem zgMA_23 : ∀ e ∈ zgML_23, zPMe e := List.forall_mem_cons.mpr ⟨zgM_23_0, List.forall_mem_cons.mpr ⟨zgM_23_1, List.forall_mem_cons.mpr ⟨zgM_23_2, List.forall_mem_cons.mpr ⟨zgM_23_3, List.forall_mem_cons.mpr ⟨zgM_23_4, List.forall_mem_cons.mpr ⟨zgM_23_5, List.forall_mem_cons.mpr ⟨zgM_23_6, List.forall_mem_cons.mpr ⟨zgM_23_7, List.forall_mem_cons.mpr ⟨zgM_23_8, fun _ h => absurd h List.not_mem_nil⟩⟩⟩⟩⟩⟩⟩⟩⟩
theorem zgM_24_0 : zPMe [0, 24, 94, 784] := zPM_of zca_94 (zat_3 204 rfl rfl)
theorem zgM_24_1 : zPMe [0, 28, 90, 783] := zPM_of zca_90 (zat_3 203 rfl rfl)
theorem zgM_24_2 : zPMe [0, 31, 88, 792] := zPM_of zca_88 (zat_3 212 rfl rfl)
theorem zgM_24_3 : zPMe [0, 88, 2, 775] := zPM_of zca_2 (zat_3 195 rfl rfl)
theorem zgM_24_4 : zPMe [8, 52, 93, 788] := zPM_of zca_93 (zat_3 208 rfl rfl)
theorem zgM_24_5 : zPMe [9, 31, 103, 769] := zPM_of zca_103 (zat_3 189 rfl rfl)
theorem zgM_24_6 : zPMe [9, 35, 106, 770] := zPM_of zca_106 (zat_3 190 rfl rfl)
noncomputable def zgML_24 : List (List Nat) := [[0, 24, 94, 784], [0, 28, 90, 783], [0, 31, 88, 792], [0, 88, 2, 775], [8, 52, 93, 788], [9, 31, 103, 769], [9, 35, 106, 770]]
theorem zgMA_24 : ∀ e ∈ zgML_24, zPMe e := List.forall_mem_cons.mpr ⟨zgM_24_0, List.forall_mem_cons.mpr ⟨zgM_24_1, List.forall_mem_cons.mpr ⟨zgM_24_2, List.forall_mem_cons.mpr ⟨zgM_24_3, List.forall_mem_cons.mpr ⟨zgM_24_4, List.forall_mem_cons.mpr ⟨zgM_24_5, List.forall_mem_cons.mpr ⟨zgM_24_6, fun _ h => absurd h List.not_mem_nil⟩⟩⟩⟩⟩⟩⟩
noncomputable def zgML_25 : List (List Nat) := []
theorem zgMA_25 : ∀ e ∈ zgML_25, zPMe e := fun _ h => absurd h List.not_mem_nil
noncomputable def zgML_26 : List (List Nat) := []
theorem zgMA_26 : ∀ e ∈ zgML_26, zPMe e := fun _ h => absurd h List.not_mem_nil
theorem zgM_27_0 : zPMe [4, 31, 87, 893] := zPM_of zca_87 (zat_4 73 rfl rfl)
theorem zgM_27_1 : zPMe [4, 34, 89, 894] := zPM_of zca_89 (zat_4 74 rfl rfl)
theorem zgM_27_2 : zPMe [4, 38, 49, 895] := zPM_of zca_49 (zat_4 75 rfl rfl)
theorem zgM_27_3 : zPMe [11, 86, 47, 889] := zPM_of zca_47 (zat_4 69 rfl rfl)
theorem zgM_27_4 : zPMe [16, 17, 121, 885] := zPM_of zca_121 (zat_4 65 rfl rfl)
theorem zgM_27_5 : zPMe [16, 129, 316, 882] := zPM_of zca_316 (zat_4 62 rfl rfl)
noncomputable def zgML_27 : List (List Nat) := [[4, 31, 87, 893], [4, 34, 89, 894], [4, 38, 49, 895], [11, 86, 47, 889], [16, 17, 121, 885], [16, 129, 316, 882]]
theorem zgMA_27 : ∀ e ∈ zgML_27, zPMe e := List.forall_mem_cons.mpr ⟨zgM_27_0, List.forall_mem_cons.mpr ⟨zgM_27_1, List.forall_mem_cons.mpr ⟨zgM_27_2, List.forall_mem_cons.mpr ⟨zgM_27_3, List.forall_mem_cons.mpr ⟨zgM_27_4, List.forall_mem_cons.mpr ⟨zgM_27_5, fun _ h => absurd h List.not_mem_nil⟩⟩⟩⟩⟩⟩
theorem zgM_28_0 : zPMe [4, 42, 96, 904] := zPM_of zca_96 (zat_4 84 rfl rfl)
theorem zgM_28_1 : zPMe [4, 48, 91, 900] := zPM_of zca_91 (zat_4 80 rfl rfl)
theorem zgM_28_2 : zPMe [4, 52, 50, 906] := zPM_of zca_50 (zat_4 86 rfl rfl)
theorem zgM_28_3 : zPMe [4, 56, 94, 920] := zPM_of zca_94 (zat_4 100 rfl rfl)
theorem zgM_28_4 : zPMe [4, 84, 92, 903] := zPM_of zca_92 (zat_4 83 rfl rfl)
theorem zgM_28_5 : zPMe [4, 88, 51, 910] := zPM_of zca_51 (zat_4 90 rfl rfl)
theorem zgM_28_6 : zPMe [4, 93, 54, 915] := zPM_of zca_54 (zat_4 95 rfl rfl)
theorem zgM_28_7 : zPMe [4, 101, 93, 919] := zPM_of zca_93 (zat_4 99 rfl rfl)
theorem zgM_28_8 : zPMe [4, 109, 52, 923] := zPM_of zca_52 (zat_4 103 rfl rfl)
theorem zgM_28_9 : zPMe [4, 113, 53, 927] := zPM_of zca_53 (zat_4 107 rfl rfl)
noncomputable def zgML_28 : List (List Nat) := [[4, 42, 96, 904], [4, 48, 91, 900], [4, 52, 50, 906], [4, 56, 94, 920], [4, 84, 92, 903], [4, 88, 51, 910], [4, 93, 54, 915], [4, 101, 93, 919], [4, 109, 52, 923], [4, 113, 53, 927]]
theorem zgMA_28 : ∀ e ∈ zgML_28, zPMe e := List.forall_mem_cons.mpr ⟨zgM_28_0, List.forall_mem_cons.mpr ⟨zgM_28_1, List.forall_mem_cons.mpr ⟨zgM_28_2, List.forall_mem_cons.mpr ⟨zgM_28_3, List.forall_mem_cons.mpr ⟨zgM_28_4, List.forall_mem_cons.mpr ⟨zgM_28_5, List.forall_mem_cons.mpr ⟨zgM_28_6, List.forall_mem_cons.mpr ⟨zgM_28_7, List.forall_mem_cons.mpr ⟨zgM_28_8, List.forall_mem_cons.mpr ⟨zgM_28_9, fun _ h => absurd h List.not_mem_nil⟩⟩⟩⟩⟩⟩⟩⟩⟩⟩
theorem zgM_29_0 : zPMe [4, 60, 90, 941] := zPM_of zca_90 (zat_4 121 rfl rfl)
theorem zgM_29_1 : zPMe [4, 63, 88, 944] := zPM_of zca_88 (zat_4 124 rfl rfl)
theorem zgM_29_2 : zPMe [4, 69, 314, 952] := zPM_of zca_314 (zat_4 132 rfl rfl)
theorem zgM_29_3 : zPMe [4, 116, 95, 931] := zPM_of zca_95 (zat_4 111 rfl rfl)
theorem zgM_29_4 : zPMe [11, 92, 48, 946] := zPM_of zca_48 (zat_4 126 rfl rfl)
noncomputable def zgML_29 : List (List Nat) := [[4, 60, 90, 941], [4, 63, 88, 944], [4, 69, 314, 952], [4, 116, 95, 931], [11, 92, 48, 946]]
theorem zgMA_29 : ∀ e ∈ zgML_29, zPMe e := List.forall_mem_cons.mpr ⟨zgM_29_0, List.forall_mem_cons.mpr ⟨zgM_29_1, List.forall_mem_cons.mpr ⟨zgM_29_2, List.forall_mem_cons.mpr ⟨zgM_29_3, List.forall_mem_cons.mpr ⟨zgM_29_4, fun _ h => absurd h List.not_mem_nil⟩⟩⟩⟩⟩
theorem zgM_30_0 : zPMe [3, 17, 314, 968] := zPM_of zca_314 (zat_4 148 rfl rfl)
theorem zgM_30_1 : zPMe [16, 136, 317, 990] := zPM_of zca_317 (zat_4 170 rfl rfl)
noncomputable def zgML_30 : List (List Nat) := [[3, 17, 314, 968], [16, 136, 317, 990]]
theorem zgMA_30 : ∀ e ∈ zgML_30, zPMe e := List.forall_mem_cons.mpr ⟨zgM_30_0, List.forall_mem_cons.mpr ⟨zgM_30_1, fun _ h => absurd h List.not_mem_nil⟩⟩
theorem zgM_31_0 : zPMe [11, 105, 166, 998] := zPM_of zca_166 (zat_4 178 rfl rfl)
theorem zgM_31_1 : zPMe [16, 20, 123, 994] := zPM_of zca_123 (zat_4 174 rfl rfl)
theorem zgM_31_2 : zPMe [16, 26, 124, 1022] := zPM_of zca_124 (zat_4 202 rfl rfl)
theorem zgM_31_3 : zPMe [16, 140, 318, 1018] := zPM_of zca_318 (zat_4 198 rfl rfl)
noncomputable def zgML_31 : List (List Nat) := [[11, 105, 166, 998], [16, 20, 123, 994], [16, 26, 124, 1022], [16, 140, 318, 1018]]
theorem zgMA_31 : ∀ e ∈ zgML_31, zPMe e := List.forall_mem_cons.mpr ⟨zgM_31_0, List.forall_mem_cons.mpr ⟨zgM_31_1, List.forall_mem_cons.mpr ⟨zgM_31_2, List.forall_mem_cons.mpr ⟨zgM_31_3, fun _ h => absurd h List.not_mem_nil⟩⟩⟩⟩
theorem zgM_32_0 : zPMe [11, 112, 167, 1026] := zPM_of zca_167 (zat_4 206 rfl rfl)
theorem zgM_32_1 : zPMe [11, 115, 169, 1032] := zPM_of zca_169 (zat_4 212 rfl rfl)
theorem zgM_32_2 : zPMe [11, 119, 28, 1052] := zPM_of zca_28 (zat_4 232 rfl rfl)
theorem zgM_32_3 : zPMe [11, 127, 16, 1053] := zPM_of zca_16 (zat_4 233 rfl rfl)
theorem zgM_32_4 : zPMe [11, 356, 9, 1030] := zPM_of zca_9 (zat_4 210 rfl rfl)
noncomputable def zgML_32 : List (List Nat) := [[11, 112, 167, 1026], [11, 115, 169, 1032], [11, 119, 28, 1052], [11, 127, 16, 1053], [11, 356, 9, 1030]]
theorem zgMA_32 : ∀ e ∈ zgML_32, zPMe e := List.forall_mem_cons.mpr ⟨zgM_32_0, List.forall_mem_cons.mpr ⟨zgM_32_1, List.forall_mem_cons.mpr ⟨zgM_32_2, List.forall_mem_cons.mpr ⟨zgM_32_3, List.forall_mem_cons.mpr ⟨zgM_32_4, fun _ h => absurd h List.not_mem_nil⟩⟩⟩⟩⟩
theorem zgM_33_0 : zPMe [2, 117, 9, 1078] := zPM_of zca_9 (zat_5 18 rfl rfl)
theorem zgM_33_1 : zPMe [2, 121, 33, 1079] := zPM_of zca_33 (zat_5 19 rfl rfl)
theorem zgM_33_2 : zPMe [2, 142, 108, 1083] := zPM_of zca_108 (zat_5 23 rfl rfl)
theorem zgM_33_3 : zPMe [7, 9, 66, 1061] := zPM_of zca_66 (zat_5 1 rfl rfl)
theorem zgM_33_4 : zPMe [9, 39, 109, 1087] := zPM_of zca_109 (zat_5 27 rfl rfl)
theorem zgM_33_5 : zPMe [11, 141, 311, 1057] := zPM_of zca_311 (zat_4 237 rfl rfl)
theorem zgM_33_6 : zPMe [11, 146, 65, 1058] := zPM_of zca_65 (zat_4 238 rfl rfl)
theorem zgM_33_7 : zPMe [11, 151, 68, 1064] := zPM_of zca_68 (zat_5 4 rfl rfl)
theorem zgM_33_8 : zPMe [11, 155, 30, 1074] := zPM_of zca_30 (zat_5 14 rfl rfl)
theorem zgM_33_9 : zPMe [16, 32, 125, 1070] := zPM_of zca_125 (zat_5 10 rfl rfl)
theorem zgM_33_10 : zPMe [16, 144, 319, 1067] := zPM_of zca_319 (zat_5 7 rfl rfl)
noncomputable def zgML_33 : List (List Nat) := [[2, 117, 9, 1078], [2, 121, 33, 1079], [2, 142, 108, 1083], [7, 9, 66, 1061], [9, 39, 109, 1087], [11, 141, 311, 1057], [11, 146, 65, 1058], [11, 151, 68, 1064], [11, 155, 30, 1074], [16, 32, 125, 1070], [16, 144, 319, 1067]]
theorem zgMA_33 : ∀ e ∈ zgML_33, zPMe e := List.forall_mem_cons.mpr ⟨zgM_33_0, List.forall_mem_cons.mpr ⟨zgM_33_1, List.forall_mem_cons.mpr ⟨zgM_33_2, List.forall_mem_cons.mpr ⟨zgM_33_3, List.forall_mem_cons.mpr ⟨zgM_33_4, List.forall_mem_cons.mpr ⟨zgM_33_5, List.forall_mem_cons.mpr ⟨zgM_33_6, List.forall_mem_cons.mpr ⟨zgM_33_7, List.forall_mem_cons.mpr ⟨zgM_33_8, List.forall_mem_cons.mpr ⟨zgM_33_9, List.forall_mem_cons.mpr ⟨zgM_33_10, fun _ h => absurd h List.not_mem_nil⟩⟩⟩⟩⟩⟩⟩⟩⟩⟩⟩
theorem zgM_34_0 : zPMe [2, 128, 42, 1090] := zPM_of zca_42 (zat_5 30 rfl rfl)
theorem zgM_34_1 : zPMe [2, 147, 14, 1089] := zPM_of zca_14 (zat_5 29 rfl rfl)
theorem zgM_34_2 : zPMe [3, 35, 43, 1094] := zPM_of zca_43 (zat_5 34 rfl rfl)
theorem zgM_34_3 : zPMe [3, 39, 44, 1098] := zPM_of zca_44 (zat_5 38 rfl rfl)
theorem zgM_34_4 : zPMe [3, 43, 45, 1101] := zPM_of zca_45 (zat_5 41 rfl rfl)
theorem zgM_34_5 : zPMe [11, 159, 31, 1104] := zPM_of zca_31 (zat_5 44 rfl rfl)
theorem zgM_34_6 : zPMe [11, 162, 168, 1115] := zPM_of zca_168 (zat_5 55 rfl rfl)
theorem zgM_34_7 : zPMe [11, 361, 102, 1119] := zPM_of zca_102 (zat_5 59 rfl rfl)
theorem zgM_34_8 : zPMe [16, 36, 126, 1111] := zPM_of zca_126 (zat_5 51 rfl rfl)
theorem zgM_34_9 : zPMe [16, 148, 320, 1108] := zPM_of zca_320 (zat_5 48 rfl rfl)
noncomputable def zgML_34 : List (List Nat) := [[2, 128, 42, 1090], [2, 147, 14, 1089], [3, 35, 43, 1094], [3, 39, 44, 1098], [3, 43, 45, 1101], [11, 159, 31, 1104], [11, 162, 168, 1115], [11, 361, 102, 1119], [16, 36, 126, 1111], [16, 148, 320, 1108]]
theorem zgMA_34 : ∀ e ∈ zgML_34, zPMe e := List.forall_mem_cons.mpr ⟨zgM_34_0, List.forall_mem_cons.mpr ⟨zgM_34_1, List.forall_mem_cons.mpr ⟨zgM_34_2, List.forall_mem_cons.mpr ⟨zgM_34_3, List.forall_mem_cons.mpr ⟨zgM_34_4, List.forall_mem_cons.mpr ⟨zgM_34_5, List.forall_mem_cons.mpr ⟨zgM_34_6, List.forall_mem_cons.mpr ⟨zgM_34_7, List.forall_mem_cons.mpr ⟨zgM_34_8, List.forall_mem_cons.mpr ⟨zgM_34_9, fun _ h => absurd h List.not_mem_nil⟩⟩⟩⟩⟩⟩⟩⟩⟩⟩
theorem zgM_35_0 : zPMe [2, 135, 102, 1132] := zPM_of zca_102 (zat_5 72 rfl rfl)
theorem zgM_35_1 : zPMe [11, 177, 105, 1124] := zPM_of zca_105 (zat_5 64 rfl rfl)
theorem zgM_35_2 : zPMe [11, 181, 32, 1128] := zPM_of zca_32 (zat_5 68 rfl rfl)
theorem zgM_35_3 : zPMe [11, 184, 171, 1141] := zPM_of zca_171 (zat_5 81 rfl rfl)
theorem zgM_35_4 : zPMe [11, 190, 172, 1146] := zPM_of zca_172 (zat_5 86 rfl rfl)
theorem zgM_35_5 : zPMe [16, 39, 127, 1137] := zPM_of zca_127 (zat_5 77 rfl rfl)
theorem zgM_35_6 : zPMe [16, 151, 321, 1133] := zPM_of zca_321 (zat_5 73 rfl rfl)
noncomputable def zgML_35 : List (List Nat) := [[2, 135, 102, 1132], [11, 177, 105, 1124], [11, 181, 32, 1128], [11, 184, 171, 1141], [11, 190, 172, 1146], [16, 39, 127, 1137], [16, 151, 321, 1133]]
theorem zgMA_35 : ∀ e ∈ zgML_35, zPMe e := List.forall_mem_cons.mpr ⟨zgM_35_0, List.forall_mem_cons.mpr ⟨zgM_35_1, List.forall_mem_cons.mpr ⟨zgM_35_2, List.forall_mem_cons.mpr ⟨zgM_35_3, List.forall_mem_cons.mpr ⟨zgM_35_4, List.forall_mem_cons.mpr ⟨zgM_35_5, List.forall_mem_cons.mpr ⟨zgM_35_6, fun _ h => absurd h List.not_mem_nil⟩⟩⟩⟩⟩⟩⟩
theorem zgM_36_0 : zPMe [11, 197, 17, 1166] := zPM_of zca_17 (zat_5 106 rfl rfl)
theorem zgM_36_1 : zPMe [11, 200, 18, 1173] := zPM_of zca_18 (zat_5 113 rfl rfl)
theorem zgM_36_2 : zPMe [16, 44, 128, 1181] := zPM_of zca_128 (zat_5 121 rfl rfl)
theorem zgM_36_3 : zPMe [16, 154, 322, 1178] := zPM_of zca_322 (zat_5 118 rfl rfl)
noncomputable def zgML_36 : List (List Nat) := [[11, 197, 17, 1166], [11, 200, 18, 1173], [16, 44, 128, 1181], [16, 154, 322, 1178]]
theorem zgMA_36 : ∀ e ∈ zgML_36, zPMe e := List.forall_mem_cons.mpr ⟨zgM_36_0, List.forall_mem_cons.mpr ⟨zgM_36_1, List.forall_mem_cons.mpr ⟨zgM_36_2, List.forall_mem_cons.mpr ⟨zgM_36_3, fun _ h => absurd h List.not_mem_nil⟩⟩⟩⟩
theorem zgM_37_0 : zPMe [11, 207, 106, 1206] := zPM_of zca_106 (zat_5 146 rfl rfl)
theorem zgM_37_1 : zPMe [11, 210, 108, 1207] := zPM_of zca_108 (zat_5 147 rfl rfl)
theorem zgM_37_2 : zPMe [11, 213, 107, 1215] := zPM_of zca_107 (zat_5 155 rfl rfl)
theorem zgM_37_3 : zPMe [16, 47, 129, 1188] := zPM_of zca_129 (zat_5 128 rfl rfl)
theorem zgM_37_4 : zPMe [16, 50, 130, 1195] := zPM_of zca_130 (zat_5 135 rfl rfl)
theorem zgM_37_5 : zPMe [16, 53, 131, 1202] := zPM_of zca_131 (zat_5 142 rfl rfl)
theorem zgM_37_6 : zPMe [16, 56, 132, 1211] := zPM_of zca_132 (zat_5 151 rfl rfl)
theorem zgM_37_7 : zPMe [16, 157, 323, 1185] := zPM_of zca_323 (zat_5 125 rfl rfl)
theorem zgM_37_8 : zPMe [16, 160, 324, 1192] := zPM_of zca_324 (zat_5 132 rfl rfl)
theorem zgM_37_9 : zPMe [16, 163, 325, 1199] := zPM_of zca_325 (zat_5 139 rfl rfl)
theorem zgM_37_10 : zPMe [16, 169, 326, 1208] := zPM_of zca_326 (zat_5 148 rfl rfl)
noncomputable def zgML_37 : List (List Nat) := [[11, 207, 106, 1206], [11, 210, 108, 1207], [11, 213, 107, 1215], [16, 47, 129, 1188], [16, 50, 130, 1195], [16, 53, 131, 1202], [16, 56, 132, 1211], [16, 157, 323, 1185], [16, 160, 324, 1192], [16, 163, 325, 1199], [16, 169, 326, 1208]]
theorem zgMA_37 : ∀ e ∈ zgML_37, zPMe e := List.forall_mem_cons.mpr ⟨zgM_37_0, List.forall_mem_cons.mpr ⟨zgM_37_1, List.forall_mem_cons.mpr ⟨zgM_37_2, List.forall_mem_cons.mpr ⟨zgM_37_3, List.forall_mem_cons.mpr ⟨zgM_37_4, List.forall_mem_cons.mpr ⟨zgM_37_5, List.forall_mem_cons.mpr ⟨zgM_37_6, List.forall_mem_cons.mpr ⟨zgM_37_7, List.forall_mem_cons.mpr ⟨zgM_37_8, List.forall_mem_cons.mpr ⟨zgM_37_9, List.forall_mem_cons.mpr ⟨zgM_37_10, fun _ h => absurd h List.not_mem_nil⟩⟩⟩⟩⟩⟩⟩⟩⟩⟩⟩
theorem zgM_38_0 : zPMe [2, 151, 27, 1242] := zPM_of zca_27 (zat_5 182 rfl rfl)
theorem zgM_38_1 : zPMe [2, 154, 30, 1243] := zPM_of zca_30 (zat_5 183 rfl rfl)
theorem zgM_38_2 : zPMe [2, 157, 31, 1244] := zPM_of zca_31 (zat_5 184 rfl rfl)
theorem zgM_38_3 : zPMe [2, 166, 35, 1247] := zPM_of zca_35 (zat_5 187 rfl rfl)
theorem zgM_38_4 : zPMe [11, 222, 170, 1233] := zPM_of zca_170 (zat_5 173 rfl rfl)
theorem zgM_38_5 : zPMe [11, 226, 34, 1238] := zPM_of zca_34 (zat_5 178 rfl rfl)
theorem zgM_38_6 : zPMe [16, 59, 133, 1222] := zPM_of zca_133 (zat_5 162 rfl rfl)
theorem zgM_38_7 : zPMe [16, 62, 135, 1229] := zPM_of zca_135 (zat_5 169 rfl rfl)
theorem zgM_38_8 : zPMe [16, 172, 327, 1219] := zPM_of zca_327 (zat_5 159 rfl rfl)
theorem zgM_38_9 : zPMe [16, 179, 328, 1226] := zPM_of zca_328 (zat_5 166 rfl rfl)
noncomputable def zgML_38 : List (List Nat) := [[2, 151, 27, 1242], [2, 154, 30, 1243], [2, 157, 31, 1244], [2, 166, 35, 1247], [11, 222, 170, 1233], [11, 226, 34, 1238], [16, 59, 133, 1222], [16, 62, 135, 1229], [16, 172, 327, 1219], [16, 179, 328, 1226]]
theorem zgMA_38 : ∀ e ∈ zgML_38, zPMe e := List.forall_mem_cons.mpr ⟨zgM_38_0, List.forall_mem_cons.mpr ⟨zgM_38_1, List.forall_mem_cons.mpr ⟨zgM_38_2, List.forall_mem_cons.mpr ⟨zgM_38_3, List.forall_mem_cons.mpr ⟨zgM_38_4, List.forall_mem_cons.mpr ⟨zgM_38_5, List.forall_mem_cons.mpr ⟨zgM_38_6, List.forall_mem_cons.mpr ⟨zgM_38_7, List.forall_mem_cons.mpr ⟨zgM_38_8, List.forall_mem_cons.mpr ⟨zgM_38_9, fun _ h => absurd h List.not_mem_nil⟩⟩⟩⟩⟩⟩⟩⟩⟩⟩
theorem zgM_39_0 : zPMe [2, 170, 36, 1264] := zPM_of zca_36 (zat_5 204 rfl rfl)
theorem zgM_39_1 : zPMe [2, 173, 37, 1268] := zPM_of zca_37 (zat_5 208 rfl rfl)
theorem zgM_39_2 : zPMe [2, 176, 39, 1251] := zPM_of zca_39 (zat_5 191 rfl rfl)
theorem zgM_39_3 : zPMe [2, 179, 40, 1255] := zPM_of zca_40 (zat_5 195 rfl rfl)
theorem zgM_39_4 : zPMe [2, 182, 57, 1259] := zPM_of zca_57 (zat_5 199 rfl rfl)
theorem zgM_39_5 : zPMe [2, 189, 105, 1272] := zPM_of zca_105 (zat_5 212 rfl rfl)
theorem zgM_39_6 : zPMe [2, 192, 32, 1273] := zPM_of zca_32 (zat_5 213 rfl rfl)
theorem zgM_39_7 : zPMe [2, 195, 17, 1274] := zPM_of zca_17 (zat_5 214 rfl rfl)
theorem zgM_39_8 : zPMe [2, 198, 107, 1275] := zPM_of zca_107 (zat_5 215 rfl rfl)
theorem zgM_39_9 : zPMe [16, 65, 137, 1279] := zPM_of zca_137 (zat_5 219 rfl rfl)
theorem zgM_39_10 : zPMe [16, 186, 329, 1276] := zPM_of zca_329 (zat_5 216 rfl rfl)
noncomputable def zgML_39 : List (List Nat) := [[2, 170, 36, 1264], [2, 173, 37, 1268], [2, 176, 39, 1251], [2, 179, 40, 1255], [2, 182, 57, 1259], [2, 189, 105, 1272], [2, 192, 32, 1273], [2, 195, 17, 1274], [2, 198, 107, 1275], [16, 65, 137, 1279], [16, 186, 329, 1276]]
theorem zgMA_39 : ∀ e ∈ zgML_39, zPMe e := List.forall_mem_cons.mpr ⟨zgM_39_0, List.forall_mem_cons.mpr ⟨zgM_39_1, List.forall_mem_cons.mpr ⟨zgM_39_2, List.forall_mem_cons.mpr ⟨zgM_39_3, List.forall_mem_cons.mpr ⟨zgM_39_4, List.forall_mem_cons.mpr ⟨zgM_39_5, List.forall_mem_cons.mpr ⟨zgM_39_6, List.forall_mem_cons.mpr ⟨zgM_39_7, List.forall_mem_cons.mpr ⟨zgM_39_8, List.forall_mem_cons.mpr ⟨zgM_39_9, List.forall_mem_cons.mpr ⟨zgM_39_10, fun _ h => absurd h List.not_mem_nil⟩⟩⟩⟩⟩⟩⟩⟩⟩⟩⟩
theorem zgM_40_0 : zPMe [7, 84, 69, 1310] := zPM_of zca_69 (zat_6 10 rfl rfl)
theorem zgM_40_1 : zPMe [7, 87, 82, 1311] := zPM_of zca_82 (zat_6 11 rfl rfl)
theorem zgM_40_2 : zPMe [10, 31, 11, 1294] := zPM_of zca_11 (zat_5 234 rfl rfl)
theorem zgM_40_3 : zPMe [10, 39, 110, 1295] := zPM_of zca_110 (zat_5 235 rfl rfl)
theorem zgM_40_4 : zPMe [10, 45, 112, 1296] := zPM_of zca_112 (zat_5 236 rfl rfl)
theorem zgM_40_5 : zPMe [11, 234, 70, 1283] := zPM_of zca_70 (zat_5 223 rfl rfl)
theorem zgM_40_6 : zPMe [11, 255, 111, 1291] := zPM_of zca_111 (zat_5 231 rfl rfl)
theorem zgM_40_7 : zPMe [11, 258, 81, 1307] := zPM_of zca_81 (zat_6 7 rfl rfl)
theorem zgM_40_8 : zPMe [16, 68, 143, 1287] := zPM_of zca_143 (zat_5 227 rfl rfl)
theorem zgM_40_9 : zPMe [16, 71, 144, 1303] := zPM_of zca_144 (zat_6 3 rfl rfl)
theorem zgM_40_10 : zPMe [16, 209, 330, 1284] := zPM_of zca_330 (zat_5 224 rfl rfl)
theorem zgM_40_11 : zPMe [16, 212, 331, 1300] := zPM_of zca_331 (zat_6 0 rfl rfl)
noncomputable def zgML_40 : List (List Nat) := [[7, 84, 69, 1310], [7, 87, 82, 1311], [10, 31, 11, 1294], [10, 39, 110, 1295], [10, 45, 112, 1296], [11, 234, 70, 1283], [11, 255, 111, 1291], [11, 258, 81, 1307], [16, 68, 143, 1287], [16, 71, 144, 1303], [16, 209, 330, 1284], [16, 212, 331, 1300]]
theorem zgMA_40 : ∀ e ∈ zgML_40, zPMe e := List.forall_mem_cons.mpr ⟨zgM_40_0, List.forall_mem_cons.mpr ⟨zgM_40_1, List.forall_mem_cons.mpr ⟨zgM_40_2, List.forall_mem_cons.mpr ⟨zgM_40_3, List.forall_mem_cons.mpr ⟨zgM_40_4, List.forall_mem_cons.mpr ⟨zgM_40_5, List.forall_mem_cons.mpr ⟨zgM_40_6, List.forall_mem_cons.mpr ⟨zgM_40_7, List.forall_mem_cons.mpr ⟨zgM_40_8, List.forall_mem_cons.mpr ⟨zgM_40_9, List.forall_mem_cons.mpr ⟨zgM_40_10, List.forall_mem_cons.mpr ⟨zgM_40_11, fun _ h => absurd h List.not_mem_nil⟩⟩⟩⟩⟩⟩⟩⟩⟩⟩⟩⟩
theorem zgM_41_0 : zPMe [7, 91, 83, 1314] := zPM_of zca_83 (zat_6 14 rfl rfl)
theorem zgM_41_1 : zPMe [10, 51, 114, 1327] := zPM_of zca_114 (zat_6 27 rfl rfl)
theorem zgM_41_2 : zPMe [10, 55, 115, 1330] := zPM_of zca_115 (zat_6 30 rfl rfl)
theorem zgM_41_3 : zPMe [10, 62, 14, 1333] := zPM_of zca_14 (zat_6 33 rfl rfl)
theorem zgM_41_4 : zPMe [11, 261, 113, 1324] := zPM_of zca_113 (zat_6 24 rfl rfl)
theorem zgM_41_5 : zPMe [11, 265, 173, 1341] := zPM_of zca_173 (zat_6 41 rfl rfl)
theorem zgM_41_6 : zPMe [16, 74, 145, 1320] := zPM_of zca_145 (zat_6 20 rfl rfl)
theorem zgM_41_7 : zPMe [16, 77, 146, 1337] := zPM_of zca_146 (zat_6 37 rfl rfl)
theorem zgM_41_8 : zPMe [16, 215, 332, 1317] := zPM_of zca_332 (zat_6 17 rfl rfl)
theorem zgM_41_9 : zPMe [16, 218, 333, 1334] := zPM_of zca_333 (zat_6 34 rfl rfl)
noncomputable def zgML_41 : List (List Nat) := [[7, 91, 83, 1314], [10, 51, 114, 1327], [10, 55, 115, 1330], [10, 62, 14, 1333], [11, 261, 113, 1324], [11, 265, 173, 1341], [16, 74, 145, 1320], [16, 77, 146, 1337], [16, 215, 332, 1317], [16, 218, 333, 1334]]
theorem zgMA_41 : ∀ e ∈ zgML_41, zPMe e := List.forall_mem_cons.mpr ⟨zgM_41_0, List.forall_mem_cons.mpr ⟨zgM_41_1, List.forall_mem_cons.mpr ⟨zgM_41_2, List.forall_mem_cons.mpr ⟨zgM_41_3, List.forall_mem_cons.mpr ⟨zgM_41_4, List.forall_mem_cons.mpr ⟨zgM_41_5, List.forall_mem_cons.mpr ⟨zgM_41_6, List.forall_mem_cons.mpr ⟨zgM_41_7, List.forall_mem_cons.mpr ⟨zgM_41_8, List.forall_mem_cons.mpr ⟨zgM_41_9, fun _ h => absurd h List.not_mem_nil⟩⟩⟩⟩⟩⟩⟩⟩⟩⟩
theorem zgM_42_0 : zPMe [7, 57, 74, 1368] := zPM_of zca_74 (zat_6 68 rfl rfl)
theorem zgM_42_1 : zPMe [11, 269, 175, 1346] := zPM_of zca_175 (zat_6 46 rfl rfl)
theorem zgM_42_2 : zPMe [11, 272, 174, 1352] := zPM_of zca_174 (zat_6 52 rfl rfl)
theorem zgM_42_3 : zPMe [11, 283, 73, 1365] := zPM_of zca_73 (zat_6 65 rfl rfl)
theorem zgM_42_4 : zPMe [11, 378, 86, 1345] := zPM_of zca_86 (zat_6 45 rfl rfl)
theorem zgM_42_5 : zPMe [11, 381, 11, 1356] := zPM_of zca_11 (zat_6 56 rfl rfl)
theorem zgM_42_6 : zPMe [11, 384, 20, 1350] := zPM_of zca_20 (zat_6 50 rfl rfl)
theorem zgM_42_7 : zPMe [16, 81, 149, 1361] := zPM_of zca_149 (zat_6 61 rfl rfl)
theorem zgM_42_8 : zPMe [16, 84, 151, 1374] := zPM_of zca_151 (zat_6 74 rfl rfl)
theorem zgM_42_9 : zPMe [16, 230, 334, 1358] := zPM_of zca_334 (zat_6 58 rfl rfl)
theorem zgM_42_10 : zPMe [16, 237, 335, 1371] := zPM_of zca_335 (zat_6 71 rfl rfl)
noncomputable def zgML_42 : List (List Nat) := [[7, 57, 74, 1368], [11, 269, 175, 1346], [11, 272, 174, 1352], [11, 283, 73, 1365], [11, 378, 86, 1345], [11, 381, 11, 1356], [11, 384, 20, 1350], [16, 81, 149, 1361], [16, 84, 151, 1374], [16, 230, 334, 1358], [16, 237, 335, 1371]]
theorem zgMA_42 : ∀ e ∈ zgML_42, zPMe e := List.forall_mem_cons.mpr ⟨zgM_42_0, List.forall_mem_cons.mpr ⟨zgM_42_1, List.forall_mem_cons.mpr ⟨zgM_42_2, List.forall_mem_cons.mpr ⟨zgM_42_3, List.forall_mem_cons.mpr ⟨zgM_42_4, List.forall_mem_cons.mpr ⟨zgM_42_5, List.forall_mem_cons.mpr ⟨zgM_42_6, List.forall_mem_cons.mpr ⟨zgM_42_7, List.forall_mem_cons.mpr ⟨zgM_42_8, List.forall_mem_cons.mpr ⟨zgM_42_9, List.forall_mem_cons.mpr ⟨zgM_42_10, fun _ h => absurd h List.not_mem_nil⟩⟩⟩⟩⟩⟩⟩⟩⟩⟩⟩
theorem zgM_43_0 : zPMe [11, 301, 38, 1406] := zPM_of zca_38 (zat_6 106 rfl rfl)
theorem zgM_43_1 : zPMe [16, 87, 152, 1381] := zPM_of zca_152 (zat_6 81 rfl rfl)
theorem zgM_43_2 : zPMe [16, 90, 153, 1388] := zPM_of zca_153 (zat_6 88 rfl rfl)
theorem zgM_43_3 : zPMe [16, 93, 154, 1395] := zPM_of zca_154 (zat_6 95 rfl rfl)
theorem zgM_43_4 : zPMe [16, 96, 157, 1402] := zPM_of zca_157 (zat_6 102 rfl rfl)
theorem zgM_43_5 : zPMe [16, 240, 336, 1378] := zPM_of zca_336 (zat_6 78 rfl rfl)
theorem zgM_43_6 : zPMe [16, 243, 337, 1385] := zPM_of zca_337 (zat_6 85 rfl rfl)
theorem zgM_43_7 : zPMe [16, 246, 338, 1392] := zPM_of zca_338 (zat_6 92 rfl rfl)
theorem zgM_43_8 : zPMe [16, 257, 339, 1399] := zPM_of zca_339 (zat_6 99 rfl rfl)
noncomputable def zgML_43 : List (List Nat) := [[11, 301, 38, 1406], [16, 87, 152, 1381], [16, 90, 153, 1388], [16, 93, 154, 1395], [16, 96, 157, 1402], [16, 240, 336, 1378], [16, 243, 337, 1385], [16, 246, 338, 1392], [16, 257, 339, 1399]]
theorem zgMA_43 : ∀ e ∈ zgML_43, zPMe e := List.forall_mem_cons.mpr ⟨zgM_43_0, List.forall_mem_cons.mpr ⟨zgM_43_1, List.forall_mem_cons.mpr ⟨zgM_43_2, List.forall_mem_cons.mpr ⟨zgM_43_3, List.forall_mem_cons.mpr ⟨zgM_43_4, List.forall_mem_cons.mpr ⟨zgM_43_5, List.forall_mem_cons.mpr ⟨zgM_43_6, List.forall_mem_cons.mpr ⟨zgM_43_7, List.forall_mem_cons.mpr ⟨zgM_43_8, fun _ h => absurd h List.not_mem_nil⟩⟩⟩⟩⟩⟩⟩⟩⟩
theorem zgM_44_0 : zPMe [5, 34, 312, 1438] := zPM_of zca_312 (zat_6 138 rfl rfl)
theorem zgM_44_1 : zPMe [5, 37, 58, 1434] := zPM_of zca_58 (zat_6 134 rfl rfl)
theorem zgM_44_2 : zPMe [11, 304, 19, 1410] := zPM_of zca_19 (zat_6 110 rfl rfl)
theorem zgM_44_3 : zPMe [11, 319, 60, 1430] := zPM_of zca_60 (zat_6 130 rfl rfl)
theorem zgM_44_4 : zPMe [11, 324, 59, 1439] := zPM_of zca_59 (zat_6 139 rfl rfl)
theorem zgM_44_5 : zPMe [16, 100, 158, 1417] := zPM_of zca_158 (zat_6 117 rfl rfl)
theorem zgM_44_6 : zPMe [16, 103, 159, 1426] := zPM_of zca_159 (zat_6 126 rfl rfl)
theorem zgM_44_7 : zPMe [16, 261, 340, 1414] := zPM_of zca_340 (zat_6 114 rfl rfl)
theorem zgM_44_8 : zPMe [16, 264, 341, 1423] := zPM_of zca_341 (zat_6 123 rfl rfl)
noncomputable def zgML_44 : List (List Nat) := [[5, 34, 312, 1438], [5, 37, 58, 1434], [11, 304, 19, 1410], [11, 319, 60, 1430], [11, 324, 59, 1439], [16, 100, 158, 1417], [16, 103, 159, 1426], [16, 261, 340, 1414], [16, 264, 341, 1423]]
theorem zgMA_44 : ∀ e ∈ zgML_44, zPMe e := List.forall_mem_cons.mpr ⟨zgM_44_0, List.forall_mem_cons.mpr ⟨zgM_44_1, List.forall_mem_cons.mpr ⟨zgM_44_2, List.forall_mem_cons.mpr ⟨zgM_44_3, List.forall_mem_cons.mpr ⟨zgM_44_4, List.forall_mem_cons.mpr ⟨zgM_44_5, List.forall_mem_cons.mpr ⟨zgM_44_6, List.forall_mem_cons.mpr ⟨zgM_44_7, List.forall_mem_cons.mpr ⟨zgM_44_8, fun _ h => absurd h List.not_mem_nil⟩⟩⟩⟩⟩⟩⟩⟩⟩
theorem zgM_45_0 : zPMe [11, 327, 58, 1450] := zPM_of zca_58 (zat_6 150 rfl rfl)
theorem zgM_45_1 : zPMe [16, 106, 160, 1446] := zPM_of zca_160 (zat_6 146 rfl rfl)
theorem zgM_45_2 : zPMe [16, 166, 344, 1451] := zPM_of zca_344 (zat_6 151 rfl rfl)
theorem zgM_45_3 : zPMe [16, 267, 342, 1443] := zPM_of zca_342 (zat_6 143 rfl rfl)
noncomputable def zgML_45 : List (List Nat) := [[11, 327, 58, 1450], [16, 106, 160, 1446], [16, 166, 344, 1451], [16, 267, 342, 1443]]
theorem zgMA_45 : ∀ e ∈ zgML_45, zPMe e := List.forall_mem_cons.mpr ⟨zgM_45_0, List.forall_mem_cons.mpr ⟨zgM_45_1, List.forall_mem_cons.mpr ⟨zgM_45_2, List.forall_mem_cons.mpr ⟨zgM_45_3, fun _ h => absurd h List.not_mem_nil⟩⟩⟩⟩
noncomputable def zgML_46 : List (List Nat) := []
theorem zgMA_46 : ∀ e ∈ zgML_46, zPMe e := fun _ h => absurd h List.not_mem_nil
theorem zgM_47_0 : zPMe [16, 282, 180, 1531] := zPM_of zca_180 (zat_6 231 rfl rfl)
theorem zgM_47_1 : zPMe [16, 286, 181, 1535] := zPM_of zca_181 (zat_6 235 rfl rfl)
noncomputable def zgML_47 : List (List Nat) := [[16, 282, 180, 1531], [16, 286, 181, 1535]]
theorem zgMA_47 : ∀ e ∈ zgML_47, zPMe e := List.forall_mem_cons.mpr ⟨zgM_47_0, List.forall_mem_cons.mpr ⟨zgM_47_1, fun _ h => absurd h List.not_mem_nil⟩⟩
theorem zgM_48_0 : zPMe [12, 109, 202, 1567] := zPM_of zca_202 (zat_7 27 rfl rfl)
theorem zgM_48_1 : zPMe [12, 259, 210, 1563] := zPM_of zca_210 (zat_7 23 rfl rfl)
theorem zgM_48_2 : zPMe [12, 266, 230, 1559] := zPM_of zca_230 (zat_7 19 rfl rfl)
theorem zgM_48_3 : zPMe [16, 117, 199, 1543] := zPM_of zca_199 (zat_7 3 rfl rfl)
theorem zgM_48_4 : zPMe [16, 122, 200, 1547] := zPM_of zca_200 (zat_7 7 rfl rfl)
theorem zgM_48_5 : zPMe [16, 128, 231, 1555] := zPM_of zca_231 (zat_7 15 rfl rfl)
theorem zgM_48_6 : zPMe [16, 135, 209, 1551] := zPM_of zca_209 (zat_7 11 rfl rfl)
theorem zgM_48_7 : zPMe [16, 278, 183, 1539] := zPM_of zca_183 (zat_6 239 rfl rfl)
noncomputable def zgML_48 : List (List Nat) := [[12, 109, 202, 1567], [12, 259, 210, 1563], [12, 266, 230, 1559], [16, 117, 199, 1543], [16, 122, 200, 1547], [16, 128, 231, 1555], [16, 135, 209, 1551], [16, 278, 183, 1539]]
theorem zgMA_48 : ∀ e ∈ zgML_48, zPMe e := List.forall_mem_cons.mpr ⟨zgM_48_0, List.forall_mem_cons.mpr ⟨zgM_48_1, List.forall_mem_cons.mpr ⟨zgM_48_2, List.forall_mem_cons.mpr ⟨zgM_48_3, List.forall_mem_cons.mpr ⟨zgM_48_4, List.forall_mem_cons.mpr ⟨zgM_48_5, List.forall_mem_cons.mpr ⟨zgM_48_6, List.forall_mem_cons.mpr ⟨zgM_48_7, fun _ h => absurd h List.not_mem_nil⟩⟩⟩⟩⟩⟩⟩⟩
theorem zgM_49_0 : zPMe [12, 82, 184, 1598] := zPM_of zca_184 (zat_7 58 rfl rfl)
theorem zgM_49_1 : zPMe [12, 103, 201, 1571] := zPM_of zca_201 (zat_7 31 rfl rfl)
theorem zgM_49_2 : zPMe [12, 121, 203, 1579] := zPM_of zca_203 (zat_7 39 rfl rfl)
theorem zgM_49_3 : zPMe [12, 124, 204, 1588] := zPM_of zca_204 (zat_7 48 rfl rfl)
theorem zgM_49_4 : zPMe [12, 169, 214, 1594] := zPM_of zca_214 (zat_7 54 rfl rfl)
theorem zgM_49_5 : zPMe [12, 253, 220, 1583] := zPM_of zca_220 (zat_7 43 rfl rfl)
theorem zgM_49_6 : zPMe [12, 262, 229, 1575] := zPM_of zca_229 (zat_7 35 rfl rfl)
noncomputable def zgML_49 : List (List Nat) := [[12, 82, 184, 1598], [12, 103, 201, 1571], [12, 121, 203, 1579], [12, 124, 204, 1588], [12, 169, 214, 1594], [12, 253, 220, 1583], [12, 262, 229, 1575]]
theorem zgMA_49 : ∀ e ∈ zgML_49, zPMe e := List.forall_mem_cons.mpr ⟨zgM_49_0, List.forall_mem_cons.mpr ⟨zgM_49_1, List.forall_mem_cons.mpr ⟨zgM_49_2, List.forall_mem_cons.mpr ⟨zgM_49_3, List.forall_mem_cons.mpr ⟨zgM_49_4, List.forall_mem_cons.mpr ⟨zgM_49_5, List.forall_mem_cons.mpr ⟨zgM_49_6, fun _ h => absurd h List.not_mem_nil⟩⟩⟩⟩⟩⟩⟩
theorem zgM_50_0 : zPMe [12, 65, 189, 1627] := zPM_of zca_189 (zat_7 87 rfl rfl)
theorem zgM_50_1 : zPMe [12, 128, 207, 1607] := zPM_of zca_207 (zat_7 67 rfl rfl)
theorem zgM_50_2 : zPMe [12, 133, 208, 1603] := zPM_of zca_208 (zat_7 63 rfl rfl)
theorem zgM_50_3 : zPMe [12, 137, 187, 1623] := zPM_of zca_187 (zat_7 83 rfl rfl)
theorem zgM_50_4 : zPMe [12, 148, 205, 1614] := zPM_of zca_205 (zat_7 74 rfl rfl)
theorem zgM_50_5 : zPMe [12, 151, 212, 1618] := zPM_of zca_212 (zat_7 78 rfl rfl)
theorem zgM_50_6 : zPMe [12, 156, 213, 1630] := zPM_of zca_213 (zat_7 90 rfl rfl)
noncomputable def zgML_50 : List (List Nat) := [[12, 65, 189, 1627], [12, 128, 207, 1607], [12, 133, 208, 1603], [12, 137, 187, 1623], [12, 148, 205, 1614], [12, 151, 212, 1618], [12, 156, 213, 1630]]
theorem zgMA_50 : ∀ e ∈ zgML_50, zPMe e := List.forall_mem_cons.mpr ⟨zgM_50_0, List.forall_mem_cons.mpr ⟨zgM_50_1, List.forall_mem_cons.mpr ⟨zgM_50_2, List.forall_mem_cons.mpr ⟨zgM_50_3, List.forall_mem_cons.mpr ⟨zgM_50_4, List.forall_mem_cons.mpr ⟨zgM_50_5, List.forall_mem_cons.mpr ⟨zgM_50_6, fun _ h => absurd h List.not_mem_nil⟩⟩⟩⟩⟩⟩⟩
theorem zgM_51_0 : zPMe [12, 61, 186, 1637] := zPM_of zca_186 (zat_7 97 rfl rfl)
theorem zgM_51_1 : zPMe [12, 72, 178, 1634] := zPM_of zca_178 (zat_7 94 rfl rfl)
theorem zgM_51_2 : zPMe [12, 90, 185, 1659] := zPM_of zca_185 (zat_7 119 rfl rfl)
theorem zgM_51_3 : zPMe [12, 160, 215, 1645] := zPM_of zca_215 (zat_7 105 rfl rfl)
theorem zgM_51_4 : zPMe [12, 173, 216, 1641] := zPM_of zca_216 (zat_7 101 rfl rfl)
theorem zgM_51_5 : zPMe [12, 178, 217, 1650] := zPM_of zca_217 (zat_7 110 rfl rfl)
theorem zgM_51_6 : zPMe [12, 183, 219, 1655] := zPM_of zca_219 (zat_7 115 rfl rfl)
noncomputable def zgML_51 : List (List Nat) := [[12, 61, 186, 1637], [12, 72, 178, 1634], [12, 90, 185, 1659], [12, 160, 215, 1645], [12, 173, 216, 1641], [12, 178, 217, 1650], [12, 183, 219, 1655]]
theorem zgMA_51 : ∀ e ∈ zgML_51, zPMe e := List.forall_mem_cons.mpr ⟨zgM_51_0, List.forall_mem_cons.mpr ⟨zgM_51_1, List.forall_mem_cons.mpr ⟨zgM_51_2, List.forall_mem_cons.mpr ⟨zgM_51_3, List.forall_mem_cons.mpr ⟨zgM_51_4, List.forall_mem_cons.mpr ⟨zgM_51_5, List.forall_mem_cons.mpr ⟨zgM_51_6, fun _ h => absurd h List.not_mem_nil⟩⟩⟩⟩⟩⟩⟩
theorem zgM_52_0 : zPMe [12, 76, 192, 1664] := zPM_of zca_192 (zat_7 124 rfl rfl)
theorem zgM_52_1 : zPMe [12, 186, 218, 1668] := zPM_of zca_218 (zat_7 128 rfl rfl)
theorem zgM_52_2 : zPMe [12, 191, 211, 1673] := zPM_of zca_211 (zat_7 133 rfl rfl)
theorem zgM_52_3 : zPMe [12, 228, 227, 1687] := zPM_of zca_227 (zat_7 147 rfl rfl)
theorem zgM_52_4 : zPMe [12, 233, 225, 1695] := zPM_of zca_225 (zat_7 155 rfl rfl)
theorem zgM_52_5 : zPMe [12, 244, 226, 1691] := zPM_of zca_226 (zat_7 151 rfl rfl)
theorem zgM_52_6 : zPMe [12, 256, 228, 1681] := zPM_of zca_228 (zat_7 141 rfl rfl)
noncomputable def zgML_52 : List (List Nat) := [[12, 76, 192, 1664], [12, 186, 218, 1668], [12, 191, 211, 1673], [12, 228, 227, 1687], [12, 233, 225, 1695], [12, 244, 226, 1691], [12, 256, 228, 1681]]
theorem zgMA_52 : ∀ e ∈ zgML_52, zPMe e := List.forall_mem_cons.mpr ⟨zgM_52_0, List.forall_mem_cons.mpr ⟨zgM_52_1, List.forall_mem_cons.mpr ⟨zgM_52_2, List.forall_mem_cons.mpr ⟨zgM_52_3, List.forall_mem_cons.mpr ⟨zgM_52_4, List.forall_mem_cons.mpr ⟨zgM_52_5, List.forall_mem_cons.mpr ⟨zgM_52_6, fun _ h => absurd h List.not_mem_nil⟩⟩⟩⟩⟩⟩⟩
theorem zgM_53_0 : zPMe [12, 205, 221, 1704] := zPM_of zca_221 (zat_7 164 rfl rfl)
theorem zgM_53_1 : zPMe [12, 214, 222, 1718] := zPM_of zca_222 (zat_7 178 rfl rfl)
theorem zgM_53_2 : zPMe [12, 217, 206, 1699] := zPM_of zca_206 (zat_7 159 rfl rfl)
theorem zgM_53_3 : zPMe [12, 236, 224, 1708] := zPM_of zca_224 (zat_7 168 rfl rfl)
theorem zgM_53_4 : zPMe [12, 239, 223, 1714] := zPM_of zca_223 (zat_7 174 rfl rfl)
theorem zgM_53_5 : zPMe [12, 270, 176, 1727] := zPM_of zca_176 (zat_7 187 rfl rfl)
noncomputable def zgML_53 : List (List Nat) := [[12, 205, 221, 1704], [12, 214, 222, 1718], [12, 217, 206, 1699], [12, 236, 224, 1708], [12, 239, 223, 1714], [12, 270, 176, 1727]]
theorem zgMA_53 : ∀ e ∈ zgML_53, zPMe e := List.forall_mem_cons.mpr ⟨zgM_53_0, List.forall_mem_cons.mpr ⟨zgM_53_1, List.forall_mem_cons.mpr ⟨zgM_53_2, List.forall_mem_cons.mpr ⟨zgM_53_3, List.forall_mem_cons.mpr ⟨zgM_53_4, List.forall_mem_cons.mpr ⟨zgM_53_5, fun _ h => absurd h List.not_mem_nil⟩⟩⟩⟩⟩⟩
theorem zgM_54_0 : zPMe [12, 86, 177, 1742] := zPM_of zca_177 (zat_7 202 rfl rfl)
theorem zgM_54_1 : zPMe [12, 298, 242, 1753] := zPM_of zca_242 (zat_7 213 rfl rfl)
theorem zgM_54_2 : zPMe [12, 314, 197, 1739] := zPM_of zca_197 (zat_7 199 rfl rfl)
theorem zgM_54_3 : zPMe [12, 317, 195, 1749] := zPM_of zca_195 (zat_7 209 rfl rfl)
theorem zgM_54_4 : zPMe [12, 320, 243, 1757] := zPM_of zca_243 (zat_7 217 rfl rfl)
theorem zgM_54_5 : zPMe [16, 131, 232, 1731] := zPM_of zca_232 (zat_7 191 rfl rfl)
theorem zgM_54_6 : zPMe [16, 139, 248, 1735] := zPM_of zca_248 (zat_7 195 rfl rfl)
theorem zgM_54_7 : zPMe [16, 143, 249, 1745] := zPM_of zca_249 (zat_7 205 rfl rfl)
noncomputable def zgML_54 : List (List Nat) := [[12, 86, 177, 1742], [12, 298, 242, 1753], [12, 314, 197, 1739], [12, 317, 195, 1749], [12, 320, 243, 1757], [16, 131, 232, 1731], [16, 139, 248, 1735], [16, 143, 249, 1745]]
theorem zgMA_54 : ∀ e ∈ zgML_54, zPMe e := List.forall_mem_cons.mpr ⟨zgM_54_0, List.forall_mem_cons.mpr ⟨zgM_54_1, List.forall_mem_cons.mpr ⟨zgM_54_2, List.forall_mem_cons.mpr ⟨zgM_54_3, List.forall_mem_cons.mpr ⟨zgM_54_4, List.forall_mem_cons.mpr ⟨zgM_54_5, List.forall_mem_cons.mpr ⟨zgM_54_6, List.forall_mem_cons.mpr ⟨zgM_54_7, fun _ h => absurd h List.not_mem_nil⟩⟩⟩⟩⟩⟩⟩⟩
theorem zgM_55_0 : zPMe [12, 69, 190, 1774] := zPM_of zca_190 (zat_7 234 rfl rfl)
theorem zgM_55_1 : zPMe [12, 294, 238, 1790] := zPM_of zca_238 (zat_8 10 rfl rfl)
theorem zgM_55_2 : zPMe [12, 301, 311, 1761] := zPM_of zca_311 (zat_7 221 rfl rfl)
theorem zgM_55_3 : zPMe [12, 306, 245, 1766] := zPM_of zca_245 (zat_7 226 rfl rfl)
theorem zgM_55_4 : zPMe [12, 323, 246, 1762] := zPM_of zca_246 (zat_7 222 rfl rfl)
theorem zgM_55_5 : zPMe [12, 326, 244, 1770] := zPM_of zca_244 (zat_7 230 rfl rfl)
theorem zgM_55_6 : zPMe [12, 329, 247, 1778] := zPM_of zca_247 (zat_7 238 rfl rfl)
theorem zgM_55_7 : zPMe [12, 332, 239, 1786] := zPM_of zca_239 (zat_8 6 rfl rfl)
theorem zgM_55_8 : zPMe [16, 147, 250, 1782] := zPM_of zca_250 (zat_8 2 rfl rfl)
noncomputable def zgML_55 : List (List Nat) := [[12, 69, 190, 1774], [12, 294, 238, 1790], [12, 301, 311, 1761], [12, 306, 245, 1766], [12, 323, 246, 1762], [12, 326, 244, 1770], [12, 329, 247, 1778], [12, 332, 239, 1786], [16, 147, 250, 1782]]
theorem zgMA_55 : ∀ e ∈ zgML_55, zPMe e := List.forall_mem_cons.mpr ⟨zgM_55_0, List.forall_mem_cons.mpr ⟨zgM_55_1, List.forall_mem_cons.mpr ⟨zgM_55_2, List.forall_mem_cons.mpr ⟨zgM_55_3, List.forall_mem_cons.mpr ⟨zgM_55_4, List.forall_mem_cons.mpr ⟨zgM_55_5, List.forall_mem_cons.mpr ⟨zgM_55_6, List.forall_mem_cons.mpr ⟨zgM_55_7, List.forall_mem_cons.mpr ⟨zgM_55_8, fun _ h => absurd h List.not_mem_nil⟩⟩⟩⟩⟩⟩⟩⟩⟩
theorem zgM_56_0 : zPMe [12, 79, 193, 1810] := zPM_of zca_193 (zat_8 30 rfl rfl)
theorem zgM_56_1 : zPMe [12, 273, 194, 1806] := zPM_of zca_194 (zat_8 26 rfl rfl)
theorem zgM_56_2 : zPMe [12, 276, 233, 1802] := zPM_of zca_233 (zat_8 22 rfl rfl)
theorem zgM_56_3 : zPMe [12, 279, 234, 1814] := zPM_of zca_234 (zat_8 34 rfl rfl)
theorem zgM_56_4 : zPMe [12, 282, 235, 1818] := zPM_of zca_235 (zat_8 38 rfl rfl)
theorem zgM_56_5 : zPMe [12, 285, 191, 1821] := zPM_of zca_191 (zat_8 41 rfl rfl)
theorem zgM_56_6 : zPMe [12, 287, 236, 1798] := zPM_of zca_236 (zat_8 18 rfl rfl)
theorem zgM_56_7 : zPMe [12, 291, 237, 1794] := zPM_of zca_237 (zat_8 14 rfl rfl)
noncomputable def zgML_56 : List (List Nat) := [[12, 79, 193, 1810], [12, 273, 194, 1806], [12, 276, 233, 1802], [12, 279, 234, 1814], [12, 282, 235, 1818], [12, 285, 191, 1821], [12, 287, 236, 1798], [12, 291, 237, 1794]]
theorem zgMA_56 : ∀ e ∈ zgML_56, zPMe e := List.forall_mem_cons.mpr ⟨zgM_56_0, List.forall_mem_cons.mpr ⟨zgM_56_1, List.forall_mem_cons.mpr ⟨zgM_56_2, List.forall_mem_cons.mpr ⟨zgM_56_3, List.forall_mem_cons.mpr ⟨zgM_56_4, List.forall_mem_cons.mpr ⟨zgM_56_5, List.forall_mem_cons.mpr ⟨zgM_56_6, List.forall_mem_cons.mpr ⟨zgM_56_7, fun _ h => absurd h List.not_mem_nil⟩⟩⟩⟩⟩⟩⟩⟩
theorem zgM_57_0 : zPMe [12, 335, 240, 1825] := zPM_of zca_240 (zat_8 45 rfl rfl)
theorem zgM_57_1 : zPMe [12, 338, 196, 1833] := zPM_of zca_196 (zat_8 53 rfl rfl)
theorem zgM_57_2 : zPMe [12, 341, 241, 1837] := zPM_of zca_241 (zat_8 57 rfl rfl)
theorem zgM_57_3 : zPMe [12, 344, 182, 1845] := zPM_of zca_182 (zat_8 65 rfl rfl)
theorem zgM_57_4 : zPMe [16, 150, 251, 1829] := zPM_of zca_251 (zat_8 49 rfl rfl)
theorem zgM_57_5 : zPMe [16, 153, 252, 1841] := zPM_of zca_252 (zat_8 61 rfl rfl)
theorem zgM_57_6 : zPMe [16, 156, 253, 1850] := zPM_of zca_253 (zat_8 70 rfl rfl)
theorem zgM_57_7 : zPMe [16, 159, 255, 1854] := zPM_of zca_255 (zat_8 74 rfl rfl)
noncomputable def zgML_57 : List (List Nat) := [[12, 335, 240, 1825], [12, 338, 196, 1833], [12, 341, 241, 1837], [12, 344, 182, 1845], [16, 150, 251, 1829], [16, 153, 252, 1841], [16, 156, 253, 1850], [16, 159, 255, 1854]]
theorem zgMA_57 : ∀ e ∈ zgML_57, zPMe e := List.forall_mem_cons.mpr ⟨zgM_57_0, List.forall_mem_cons.mpr ⟨zgM_57_1, List.forall_mem_cons.mpr ⟨zgM_57_2, List.forall_mem_cons.mpr ⟨zgM_57_3, List.forall_mem_cons.mpr ⟨zgM_57_4, List.forall_mem_cons.mpr ⟨zgM_57_5, List.forall_mem_cons.mpr ⟨zgM_57_6, List.forall_mem_cons.mpr ⟨zgM_57_7, fun _ h => absurd h List.not_mem_nil⟩⟩⟩⟩⟩⟩⟩⟩
theorem zgM_58_0 : zPMe [12, 350, 254, 1858] := zPM_of zca_254 (zat_8 78 rfl rfl)
theorem zgM_58_1 : zPMe [12, 353, 188, 1870] := zPM_of zca_188 (zat_8 90 rfl rfl)
theorem zgM_58_2 : zPMe [12, 356, 257, 1874] := zPM_of zca_257 (zat_8 94 rfl rfl)
theorem zgM_58_3 : zPMe [16, 162, 256, 1862] := zPM_of zca_256 (zat_8 82 rfl rfl)
theorem zgM_58_4 : zPMe [16, 165, 258, 1866] := zPM_of zca_258 (zat_8 86 rfl rfl)
theorem zgM_58_5 : zPMe [16, 171, 259, 1878] := zPM_of zca_259 (zat_8 98 rfl rfl)
theorem zgM_58_6 : zPMe [16, 174, 260, 1882] := zPM_of zca_260 (zat_8 102 rfl rfl)
theorem zgM_58_7 : zPMe [16, 178, 261, 1886] := zPM_of zca_261 (zat_8 106 rfl rfl)
noncomputable def zgML_58 : List (List Nat) := [[12, 350, 254, 1858], [12, 353, 188, 1870], [12, 356, 257, 1874], [16, 162, 256, 1862], [16, 165, 258, 1866], [16, 171, 259, 1878], [16, 174, 260, 1882], [16, 178, 261, 1886]]
theorem zgMA_58 : ∀ e ∈ zgML_58, zPMe e := List.forall_mem_cons.mpr ⟨zgM_58_0, List.forall_mem_cons.mpr ⟨zgM_58_1, List.forall_mem_cons.mpr ⟨zgM_58_2, List.forall_mem_cons.mpr ⟨zgM_58_3, List.forall_mem_cons.mpr ⟨zgM_58_4, List.forall_mem_cons.mpr ⟨zgM_58_5, List.forall_mem_cons.mpr ⟨zgM_58_6, List.forall_mem_cons.mpr ⟨zgM_58_7, fun _ h => absurd h List.not_mem_nil⟩⟩⟩⟩⟩⟩⟩⟩
theorem zgM_59_0 : zPMe [12, 359, 198, 1906] := zPM_of zca_198 (zat_8 126 rfl rfl)
theorem zgM_59_1 : zPMe [12, 362, 262, 1911] := zPM_of zca_262 (zat_8 131 rfl rfl)
theorem zgM_59_2 : zPMe [12, 366, 263, 1902] := zPM_of zca_263 (zat_8 122 rfl rfl)
theorem zgM_59_3 : zPMe [12, 370, 264, 1915] := zPM_of zca_264 (zat_8 135 rfl rfl)
theorem zgM_59_4 : zPMe [12, 373, 265, 1898] := zPM_of zca_265 (zat_8 118 rfl rfl)
theorem zgM_59_5 : zPMe [12, 376, 268, 1894] := zPM_of zca_268 (zat_8 114 rfl rfl)
theorem zgM_59_6 : zPMe [16, 181, 269, 1890] := zPM_of zca_269 (zat_8 110 rfl rfl)
theorem zgM_59_7 : zPMe [16, 239, 270, 1919] := zPM_of zca_270 (zat_8 139 rfl rfl)
noncomputable def zgML_59 : List (List Nat) := [[12, 359, 198, 1906], [12, 362, 262, 1911], [12, 366, 263, 1902], [12, 370, 264, 1915], [12, 373, 265, 1898], [12, 376, 268, 1894], [16, 181, 269, 1890], [16, 239, 270, 1919]]
theorem zgMA_59 : ∀ e ∈ zgML_59, zPMe e := List.forall_mem_cons.mpr ⟨zgM_59_0, List.forall_mem_cons.mpr ⟨zgM_59_1, List.forall_mem_cons.mpr ⟨zgM_59_2, List.forall_mem_cons.mpr ⟨zgM_59_3, List.forall_mem_cons.mpr ⟨zgM_59_4, List.forall_mem_cons.mpr ⟨zgM_59_5, List.forall_mem_cons.mpr ⟨zgM_59_6, List.forall_mem_cons.mpr ⟨zgM_59_7, fun _ h => absurd h List.not_mem_nil⟩⟩⟩⟩⟩⟩⟩⟩
theorem zgM_60_0 : zPMe [12, 380, 266, 1923] := zPM_of zca_266 (zat_8 143 rfl rfl)
theorem zgM_60_1 : zPMe [12, 383, 267, 1927] := zPM_of zca_267 (zat_8 147 rfl rfl)
theorem zgM_60_2 : zPMe [12, 389, 276, 1951] := zPM_of zca_276 (zat_8 171 rfl rfl)
theorem zgM_60_3 : zPMe [16, 185, 274, 1943] := zPM_of zca_274 (zat_8 163 rfl rfl)
theorem zgM_60_4 : zPMe [16, 188, 277, 1947] := zPM_of zca_277 (zat_8 167 rfl rfl)
theorem zgM_60_5 : zPMe [16, 242, 271, 1931] := zPM_of zca_271 (zat_8 151 rfl rfl)
theorem zgM_60_6 : zPMe [16, 245, 272, 1935] := zPM_of zca_272 (zat_8 155 rfl rfl)
theorem zgM_60_7 : zPMe [16, 248, 273, 1939] := zPM_of zca_273 (zat_8 159 rfl rfl)
noncomputable def zgML_60 : List (List Nat) := [[12, 380, 266, 1923], [12, 383, 267, 1927], [12, 389, 276, 1951], [16, 185, 274, 1943], [16, 188, 277, 1947], [16, 242, 271, 1931], [16, 245, 272, 1935], [16, 248, 273, 1939]]
theorem zgMA_60 : ∀ e ∈ zgML_60, zPMe e := List.forall_mem_cons.mpr ⟨zgM_60_0, List.forall_mem_cons.mpr ⟨zgM_60_1, List.forall_mem_cons.mpr ⟨zgM_60_2, List.forall_mem_cons.mpr ⟨zgM_60_3, List.forall_mem_cons.mpr ⟨zgM_60_4, List.forall_mem_cons.mpr ⟨zgM_60_5, List.forall_mem_cons.mpr ⟨zgM_60_6, List.forall_mem_cons.mpr ⟨zgM_60_7, fun _ h => absurd h List.not_mem_nil⟩⟩⟩⟩⟩⟩⟩⟩
theorem zgM_61_0 : zPMe [12, 386, 275, 1955] := zPM_of zca_275 (zat_8 175 rfl rfl)
theorem zgM_61_1 : zPMe [12, 393, 282, 1979] := zPM_of zca_282 (zat_8 199 rfl rfl)
theorem zgM_61_2 : zPMe [16, 192, 279, 1963] := zPM_of zca_279 (zat_8 183 rfl rfl)
theorem zgM_61_3 : zPMe [16, 204, 281, 1971] := zPM_of zca_281 (zat_8 191 rfl rfl)
theorem zgM_61_4 : zPMe [16, 214, 283, 1975] := zPM_of zca_283 (zat_8 195 rfl rfl)
theorem zgM_61_5 : zPMe [16, 229, 278, 1959] := zPM_of zca_278 (zat_8 179 rfl rfl)
theorem zgM_61_6 : zPMe [16, 232, 284, 1983] := zPM_of zca_284 (zat_8 203 rfl rfl)
theorem zgM_61_7 : zPMe [16, 236, 280, 1967] := zPM_of zca_280 (zat_8 187 rfl rfl)
noncomputable def zgML_61 : List (List Nat) := [[12, 386, 275, 1955], [12, 393, 282, 1979], [16, 192, 279, 1963], [16, 204, 281, 1971], [16, 214, 283, 1975], [16, 229, 278, 1959], [16, 232, 284, 1983], [16, 236, 280, 1967]]
theorem zgMA_61 : ∀ e ∈ zgML_61, zPMe e := List.forall_mem_cons.mpr ⟨zgM_61_0, List.forall_mem_cons.mpr ⟨zgM_61_1, List.forall_mem_cons.mpr ⟨zgM_61_2, List.forall_mem_cons.mpr ⟨zgM_61_3, List.forall_mem_cons.mpr ⟨zgM_61_4, List.forall_mem_cons.mpr ⟨zgM_61_5, List.forall_mem_cons.mpr ⟨zgM_61_6, List.forall_mem_cons.mpr ⟨zgM_61_7, fun _ h => absurd h List.not_mem_nil⟩⟩⟩⟩⟩⟩⟩⟩
theorem zgM_62_0 : zPMe [12, 399, 285, 1999] := zPM_of zca_285 (zat_8 219 rfl rfl)
theorem zgM_62_1 : zPMe [12, 402, 286, 1995] := zPM_of zca_286 (zat_8 215 rfl rfl)
theorem zgM_62_2 : zPMe [12, 405, 287, 1991] := zPM_of zca_287 (zat_8 211 rfl rfl)
theorem zgM_62_3 : zPMe [12, 408, 289, 2007] := zPM_of zca_289 (zat_8 227 rfl rfl)
theorem zgM_62_4 : zPMe [12, 411, 292, 2015] := zPM_of zca_292 (zat_8 235 rfl rfl)
theorem zgM_62_5 : zPMe [16, 196, 288, 1987] := zPM_of zca_288 (zat_8 207 rfl rfl)
theorem zgM_62_6 : zPMe [16, 200, 290, 2003] := zPM_of zca_290 (zat_8 223 rfl rfl)
theorem zgM_62_7 : zPMe [16, 208, 293, 2011] := zPM_of zca_293 (zat_8 231 rfl rfl)
noncomputable def zgML_62 : List (List Nat) := [[12, 399, 285, 1999], [12, 402, 286, 1995], [12, 405, 287, 1991], [12, 408, 289, 2007], [12, 411, 292, 2015], [16, 196, 288, 1987], [16, 200, 290, 2003], [16, 208, 293, 2011]]
theorem zgMA_62 : ∀ e ∈ zgML_62, zPMe e := List.forall_mem_cons.mpr ⟨zgM_62_0, List.forall_mem_cons.mpr ⟨zgM_62_1, List.forall_mem_cons.mpr ⟨zgM_62_2, List.forall_mem_cons.mpr ⟨zgM_62_3, List.forall_mem_cons.mpr ⟨zgM_62_4, List.forall_mem_cons.mpr ⟨zgM_62_5, List.forall_mem_cons.mpr ⟨zgM_62_6, List.forall_mem_cons.mpr ⟨zgM_62_7, fun _ h => absurd h List.not_mem_nil⟩⟩⟩⟩⟩⟩⟩⟩
theorem zgM_63_0 : zPMe [12, 414, 291, 2019] := zPM_of zca_291 (zat_8 239 rfl rfl)
theorem zgM_63_1 : zPMe [12, 417, 294, 2027] := zPM_of zca_294 (zat_9 7 rfl rfl)
theorem zgM_63_2 : zPMe [12, 420, 296, 2034] := zPM_of zca_296 (zat_9 14 rfl rfl)
theorem zgM_63_3 : zPMe [12, 423, 298, 2042] := zPM_of zca_298 (zat_9 22 rfl rfl)
theorem zgM_63_4 : zPMe [16, 211, 295, 2023] := zPM_of zca_295 (zat_9 3 rfl rfl)
theorem zgM_63_5 : zPMe [16, 217, 297, 2030] := zPM_of zca_297 (zat_9 10 rfl rfl)
theorem zgM_63_6 : zPMe [16, 221, 299, 2038] := zPM_of zca_299 (zat_9 18 rfl rfl)
theorem zgM_63_7 : zPMe [16, 225, 300, 2046] := zPM_of zca_300 (zat_9 26 rfl rfl)
noncomputable def zgML_63 : List (List Nat) := [[12, 414, 291, 2019], [12, 417, 294, 2027], [12, 420, 296, 2034], [12, 423, 298, 2042], [16, 211, 295, 2023], [16, 217, 297, 2030], [16, 221, 299, 2038], [16, 225, 300, 2046]]
theorem zgMA_63 : ∀ e ∈ zgML_63, zPMe e := List.forall_mem_cons.mpr ⟨zgM_63_0, List.forall_mem_cons.mpr ⟨zgM_63_1, List.forall_mem_cons.mpr ⟨zgM_63_2, List.forall_mem_cons.mpr ⟨zgM_63_3, List.forall_mem_cons.mpr ⟨zgM_63_4, List.forall_mem_cons.mpr ⟨zgM_63_5, List.forall_mem_cons.mpr ⟨zgM_63_6, List.forall_mem_cons.mpr ⟨zgM_63_7, fun _ h => absurd h List.not_mem_nil⟩⟩⟩⟩⟩⟩⟩⟩
theorem zgM_64_0 : zPMe [12, 426, 303, 2062] := zPM_of zca_303 (zat_9 42 rfl rfl)
theorem zgM_64_1 : zPMe [12, 429, 306, 2074] := zPM_of zca_306 (zat_9 54 rfl rfl)
theorem zgM_64_2 : zPMe [16, 252, 301, 2050] := zPM_of zca_301 (zat_9 30 rfl rfl)
theorem zgM_64_3 : zPMe [16, 256, 302, 2054] := zPM_of zca_302 (zat_9 34 rfl rfl)
theorem zgM_64_4 : zPMe [16, 260, 304, 2058] := zPM_of zca_304 (zat_9 38 rfl rfl)
theorem zgM_64_5 : zPMe [16, 263, 305, 2066] := zPM_of zca_305 (zat_9 46 rfl rfl)
theorem zgM_64_6 : zPMe [16, 266, 307, 2070] := zPM_of zca_307 (zat_9 50 rfl rfl)
theorem zgM_64_7 : zPMe [16, 269, 308, 2078] := zPM_of zca_308 (zat_9 58 rfl rfl)
noncomputable def zgML_64 : List (List Nat) := [[12, 426, 303, 2062], [12, 429, 306, 2074], [16, 252, 301, 2050], [16, 256, 302, 2054], [16, 260, 304, 2058], [16, 263, 305, 2066], [16, 266, 307, 2070], [16, 269, 308, 2078]]
theorem zgMA_64 : ∀ e ∈ zgML_64, zPMe e := List.forall_mem_cons.mpr ⟨zgM_64_0, List.forall_mem_cons.mpr ⟨zgM_64_1, List.forall_mem_cons.mpr ⟨zgM_64_2, List.forall_mem_cons.mpr ⟨zgM_64_3, List.forall_mem_cons.mpr ⟨zgM_64_4, List.forall_mem_cons.mpr ⟨zgM_64_5, List.forall_mem_cons.mpr ⟨zgM_64_6, List.forall_mem_cons.mpr ⟨zgM_64_7, fun _ h => absurd h List.not_mem_nil⟩⟩⟩⟩⟩⟩⟩⟩
theorem zgM_65_0 : zPMe [16, 273, 309, 2082] := zPM_of zca_309 (zat_9 62 rfl rfl)
theorem zgM_65_1 : zPMe [16, 290, 310, 2086] := zPM_of zca_310 (zat_9 66 rfl rfl)
noncomputable def zgML_65 : List (List Nat) := [[16, 273, 309, 2082], [16, 290, 310, 2086]]
theorem zgMA_65 : ∀ e ∈ zgML_65, zPMe e := List.forall_mem_cons.mpr ⟨zgM_65_0, List.forall_mem_cons.mpr ⟨zgM_65_1, fun _ h => absurd h List.not_mem_nil⟩⟩
noncomputable def zgMG : List (List (List Nat)) := [zgML_0, zgML_1, zgML_2, zgML_3, zgML_4, zgML_5, zgML_6, zgML_7, zgML_8, zgML_9, zgML_10, zgML_11, zgML_12, zgML_13, zgML_14, zgML_15, zgML_16, zgML_17, zgML_18, zgML_19, zgML_20, zgML_21, zgML_22, zgML_23, zgML_24, zgML_25, zgML_26, zgML_27, zgML_28, zgML_29, zgML_30, zgML_31, zgML_32, zgML_33, zgML_34, zgML_35, zgML_36, zgML_37, zgML_38, zgML_39, zgML_40, zgML_41, zgML_42, zgML_43, zgML_44, zgML_45, zgML_46, zgML_47, zgML_48, zgML_49, zgML_50, zgML_51, zgML_52, zgML_53, zgML_54, zgML_55, zgML_56, zgML_57, zgML_58, zgML_59, zgML_60, zgML_61, zgML_62, zgML_63, zgML_64, zgML_65]
theorem zgMA : ∀ L ∈ zgMG, ∀ e ∈ L, zPMe e := List.forall_mem_cons.mpr ⟨zgMA_0, List.forall_mem_cons.mpr ⟨zgMA_1, List.forall_mem_cons.mpr ⟨zgMA_2, List.forall_mem_cons.mpr ⟨zgMA_3, List.forall_mem_cons.mpr ⟨zgMA_4, List.forall_mem_cons.mpr ⟨zgMA_5, List.forall_mem_cons.mpr ⟨zgMA_6, List.forall_mem_cons.mpr ⟨zgMA_7, List.forall_mem_cons.mpr ⟨zgMA_8, List.forall_mem_cons.mpr ⟨zgMA_9, List.forall_mem_cons.mpr ⟨zgMA_10, List.forall_mem_cons.mpr ⟨zgMA_11, List.forall_mem_cons.mpr ⟨zgMA_12, List.forall_mem_cons.mpr ⟨zgMA_13, List.forall_mem_cons.mpr ⟨zgMA_14, List.forall_mem_cons.mpr ⟨zgMA_15, List.forall_mem_cons.mpr ⟨zgMA_16, List.forall_mem_cons.mpr ⟨zgMA_17, List.forall_mem_cons.mpr ⟨zgMA_18, List.forall_mem_cons.mpr ⟨zgMA_19, List.forall_mem_cons.mpr ⟨zgMA_20, List.forall_mem_cons.mpr ⟨zgMA_21, List.forall_mem_cons.mpr ⟨zgMA_22, List.forall_mem_cons.mpr ⟨zgMA_23, List.forall_mem_cons.mpr ⟨zgMA_24, List.forall_mem_cons.mpr ⟨zgMA_25, List.forall_mem_cons.mpr ⟨zgMA_26, List.forall_mem_cons.mpr ⟨zgMA_27, List.forall_mem_cons.mpr ⟨zgMA_28, List.forall_mem_cons.mpr ⟨zgMA_29, List.forall_mem_cons.mpr ⟨zgMA_30, List.forall_mem_cons.mpr ⟨zgMA_31, List.forall_mem_cons.mpr ⟨zgMA_32, List.forall_mem_cons.mpr ⟨zgMA_33, List.forall_mem_cons.mpr ⟨zgMA_34, List.forall_mem_cons.mpr ⟨zgMA_35, List.forall_mem_cons.mpr ⟨zgMA_36, List.forall_mem_cons.mpr ⟨zgMA_37, List.forall_mem_cons.mpr ⟨zgMA_38, List.forall_mem_cons.mpr ⟨zgMA_39, List.forall_mem_cons.mpr ⟨zgMA_40, List.forall_mem_cons.mpr ⟨zgMA_41, List.forall_mem_cons.mpr ⟨zgMA_42, List.forall_mem_cons.mpr ⟨zgMA_43, List.forall_mem_cons.mpr ⟨zgMA_44, List.forall_mem_cons.mpr ⟨zgMA_45, List.forall_mem_cons.mpr ⟨zgMA_46, List.forall_mem_cons.mpr ⟨zgMA_47, List.forall_mem_cons.mpr ⟨zgMA_48, List.forall_mem_cons.mpr ⟨zgMA_49, List.forall_mem_cons.mpr ⟨zgMA_50, List.forall_mem_cons.mpr ⟨zgMA_51, List.forall_mem_cons.mpr ⟨zgMA_52, List.forall_mem_cons.mpr ⟨zgMA_53, List.forall_mem_cons.mpr ⟨zgMA_54, List.forall_mem_cons.mpr ⟨zgMA_55, List.forall_mem_cons.mpr ⟨zgMA_56, List.forall_mem_cons.mpr ⟨zgMA_57, List.forall_mem_cons.mpr ⟨zgMA_58, List.forall_mem_cons.mpr ⟨zgMA_59, List.forall_mem_cons.mpr ⟨zgMA_60, List.forall_mem_cons.mpr ⟨zgMA_61, List.forall_mem_cons.mpr ⟨zgMA_62, List.forall_mem_cons.mpr ⟨zgMA_63, List.forall_mem_cons.mpr ⟨zgMA_64, List.forall_mem_cons.mpr ⟨zgMA_65, fun _ h => absurd h List.not_mem_nil⟩⟩⟩⟩⟩⟩⟩⟩⟩⟩⟩⟩⟩⟩⟩⟩⟩⟩⟩⟩⟩⟩⟩⟩⟩⟩⟩⟩⟩⟩⟩⟩⟩⟩⟩⟩⟩⟩⟩⟩⟩⟩⟩⟩⟩⟩⟩⟩⟩⟩⟩⟩⟩⟩⟩⟩⟩⟩⟩⟩⟩⟩⟩⟩⟩⟩
theorem zpd_0 : (parseMethodDescriptor "(LClockShares$Families;)V").map (fun d => d.parameters.length) = some 1 := by decide +kernel
theorem zpd_1 : (parseMethodDescriptor "(I)Z").map (fun d => d.parameters.length) = some 1 := by decide +kernel
theorem zpd_2 : (parseMethodDescriptor "()Z").map (fun d => d.parameters.length) = some 0 := by decide +kernel
theorem zpd_3 : (parseMethodDescriptor "()I").map (fun d => d.parameters.length) = some 0 := by decide +kernel
theorem zpd_4 : (parseMethodDescriptor "(III)I").map (fun d => d.parameters.length) = some 3 := by decide +kernel
theorem zpd_5 : (parseMethodDescriptor "(II)V").map (fun d => d.parameters.length) = some 2 := by decide +kernel
theorem zpd_6 : (parseMethodDescriptor "(II)Z").map (fun d => d.parameters.length) = some 2 := by decide +kernel
theorem zpd_7 : (parseMethodDescriptor "(I)I").map (fun d => d.parameters.length) = some 1 := by decide +kernel
theorem zpd_8 : (parseMethodDescriptor "(LClockShares$House;)V").map (fun d => d.parameters.length) = some 1 := by decide +kernel
theorem zpd_9 : (parseMethodDescriptor "(II)I").map (fun d => d.parameters.length) = some 2 := by decide +kernel
theorem zpd_10 : (parseMethodDescriptor "(Z)I").map (fun d => d.parameters.length) = some 1 := by decide +kernel
theorem zpd_11 : (parseMethodDescriptor "(I)V").map (fun d => d.parameters.length) = some 1 := by decide +kernel
theorem zpd_12 : (parseMethodDescriptor "()V").map (fun d => d.parameters.length) = some 0 := by decide +kernel
theorem zpd_13 : (parseMethodDescriptor "(I[I)I").map (fun d => d.parameters.length) = some 2 := by decide +kernel
theorem zpd_14 : (parseMethodDescriptor "(II[I)Z").map (fun d => d.parameters.length) = some 3 := by decide +kernel
theorem zpd_15 : (parseMethodDescriptor "(LClockShares$Tape;)I").map (fun d => d.parameters.length) = some 1 := by decide +kernel
theorem zpd_16 : (parseMethodDescriptor "()LClockShares$Law;").map (fun d => d.parameters.length) = some 0 := by decide +kernel
theorem zpd_17 : (parseMethodDescriptor "(LClockShares$Tape;I)V").map (fun d => d.parameters.length) = some 2 := by decide +kernel
theorem zpd_18 : (parseMethodDescriptor "(LClockShares$Tape;)V").map (fun d => d.parameters.length) = some 1 := by decide +kernel
theorem zpd_19 : (parseMethodDescriptor "(LClockShares$Log;)V").map (fun d => d.parameters.length) = some 1 := by decide +kernel
theorem zpd_20 : (parseMethodDescriptor "(IIIII)V").map (fun d => d.parameters.length) = some 5 := by decide +kernel
theorem zpd_21 : (parseMethodDescriptor "(LClockShares$House;)Z").map (fun d => d.parameters.length) = some 1 := by decide +kernel
theorem zpd_22 : (parseMethodDescriptor "(Ljava/lang/String;)Z").map (fun d => d.parameters.length) = some 1 := by decide +kernel
theorem zpd_23 : (parseMethodDescriptor "(Ljava/lang/String;)V").map (fun d => d.parameters.length) = some 1 := by decide +kernel
theorem zpd_24 : (parseMethodDescriptor "(C)Z").map (fun d => d.parameters.length) = some 1 := by decide +kernel
theorem zpd_25 : (parseMethodDescriptor "(C)V").map (fun d => d.parameters.length) = some 1 := by decide +kernel
theorem zpd_26 : (parseMethodDescriptor "(LClockShares$Things;)V").map (fun d => d.parameters.length) = some 1 := by decide +kernel
theorem zpd_27 : (parseMethodDescriptor "(IIZ)V").map (fun d => d.parameters.length) = some 3 := by decide +kernel
theorem zpd_28 : (parseMethodDescriptor "(IIIII)I").map (fun d => d.parameters.length) = some 5 := by decide +kernel
theorem zpd_29 : (parseMethodDescriptor "(IZ)I").map (fun d => d.parameters.length) = some 2 := by decide +kernel
theorem zpd_30 : (parseMethodDescriptor "(III)V").map (fun d => d.parameters.length) = some 3 := by decide +kernel
theorem zpd_31 : (parseMethodDescriptor "(Z)V").map (fun d => d.parameters.length) = some 1 := by decide +kernel
theorem zpd_32 : (parseMethodDescriptor "(ZI)Z").map (fun d => d.parameters.length) = some 2 := by decide +kernel
theorem zpd_33 : (parseMethodDescriptor "(Ljava/lang/String;II)I").map (fun d => d.parameters.length) = some 3 := by decide +kernel
theorem zpd_34 : (parseMethodDescriptor "(III)Z").map (fun d => d.parameters.length) = some 3 := by decide +kernel
theorem zpd_35 : (parseMethodDescriptor "(IIII)I").map (fun d => d.parameters.length) = some 4 := by decide +kernel
theorem zpd_36 : (parseMethodDescriptor "(LClockShares$House;LClockShares$Tape;)I").map (fun d => d.parameters.length) = some 2 := by decide +kernel
theorem zpd_37 : (parseMethodDescriptor "(LClockShares$House;LClockShares$Tape;)V").map (fun d => d.parameters.length) = some 2 := by decide +kernel
theorem zpd_38 : (parseMethodDescriptor "(LClockShares$House;I)I").map (fun d => d.parameters.length) = some 2 := by decide +kernel
theorem zpd_39 : (parseMethodDescriptor "(LClockShares$House;)I").map (fun d => d.parameters.length) = some 1 := by decide +kernel
theorem zpd_40 : (parseMethodDescriptor "(LClockShares$House;II)I").map (fun d => d.parameters.length) = some 3 := by decide +kernel
theorem zpd_41 : (parseMethodDescriptor "(LClockShares$House;III)I").map (fun d => d.parameters.length) = some 4 := by decide +kernel
theorem zpd_42 : (parseMethodDescriptor "(LClockShares$House;II)Z").map (fun d => d.parameters.length) = some 3 := by decide +kernel
theorem zpd_43 : (parseMethodDescriptor "(I)J").map (fun d => d.parameters.length) = some 1 := by decide +kernel
theorem zpd_44 : (parseMethodDescriptor "(LClockShares$House;IIII)Z").map (fun d => d.parameters.length) = some 5 := by decide +kernel
theorem zpd_45 : (parseMethodDescriptor "(LClockShares$House;IIII)I").map (fun d => d.parameters.length) = some 5 := by decide +kernel
theorem zpd_46 : (parseMethodDescriptor "([II)V").map (fun d => d.parameters.length) = some 2 := by decide +kernel
theorem zpd_47 : (parseMethodDescriptor "([II)[I").map (fun d => d.parameters.length) = some 2 := by decide +kernel
theorem zpd_48 : (parseMethodDescriptor "(LClockShares;[J)I").map (fun d => d.parameters.length) = some 2 := by decide +kernel
theorem zpd_49 : (parseMethodDescriptor "(LClockShares;I[J)I").map (fun d => d.parameters.length) = some 3 := by decide +kernel
theorem zpd_50 : (parseMethodDescriptor "(LClockShares;II[J)I").map (fun d => d.parameters.length) = some 4 := by decide +kernel
theorem zpd_51 : (parseMethodDescriptor "(LClockShares;III[J)I").map (fun d => d.parameters.length) = some 5 := by decide +kernel
theorem zpd_52 : (parseMethodDescriptor "(LClockShares;Z[J)I").map (fun d => d.parameters.length) = some 3 := by decide +kernel
theorem zpd_53 : (parseMethodDescriptor "(LClockShares;IZ[J)I").map (fun d => d.parameters.length) = some 4 := by decide +kernel
theorem zg4_0_0 : zP54e [8, 1, 0, 423, 424, 105, 425] := ⟨z_m8, zca_8, rfl, rfl, rfl, (zat_2 83 rfl rfl), (zat_2 84 rfl rfl), (zat_1 5 rfl rfl), (zat_2 85 rfl rfl), (zyok_of (s := RX1) rfl zcm_1 zpd_0), by decide⟩
theorem zg4_0_1 : zP54e [9, 1, 0, 506, 507, 105, 508] := ⟨z_m9, zca_9, rfl, rfl, rfl, (zat_2 166 rfl rfl), (zat_2 167 rfl rfl), (zat_1 5 rfl rfl), (zat_2 168 rfl rfl), (zyok_of (s := RX1) rfl zcm_1 zpd_1), by decide⟩
theorem zg4_0_2 : zP54e [10, 0, 0, 647, 648, 105, 649] := ⟨z_m10, zca_10, rfl, rfl, rfl, (zat_3 67 rfl rfl), (zat_3 68 rfl rfl), (zat_1 5 rfl rfl), (zat_3 69 rfl rfl), (zyok_of (s := RX1) rfl zcm_1 zpd_2), by decide⟩
theorem zg4_0_3 : zP54e [11, 0, 0, 463, 464, 105, 465] := ⟨z_m11, zca_11, rfl, rfl, rfl, (zat_2 123 rfl rfl), (zat_2 124 rfl rfl), (zat_1 5 rfl rfl), (zat_2 125 rfl rfl), (zyok_of (s := RX1) rfl zcm_1 zpd_3), by decide⟩
theorem zg4_0_4 : zP54e [12, 3, 0, 733, 734, 105, 735] := ⟨z_m12, zca_12, rfl, rfl, rfl, (zat_3 153 rfl rfl), (zat_3 154 rfl rfl), (zat_1 5 rfl rfl), (zat_3 155 rfl rfl), (zyok_of (s := RX1) rfl zcm_1 zpd_4), by decide⟩
theorem zg4_0_5 : zP54e [13, 2, 0, 749, 750, 105, 751] := ⟨z_m13, zca_13, rfl, rfl, rfl, (zat_3 169 rfl rfl), (zat_3 170 rfl rfl), (zat_1 5 rfl rfl), (zat_3 171 rfl rfl), (zyok_of (s := RX1) rfl zcm_1 zpd_5), by decide⟩
theorem zg4_0_6 : zP54e [14, 2, 0, 502, 503, 105, 504] := ⟨z_m14, zca_14, rfl, rfl, rfl, (zat_2 162 rfl rfl), (zat_2 163 rfl rfl), (zat_1 5 rfl rfl), (zat_2 164 rfl rfl), (zyok_of (s := RX1) rfl zcm_1 zpd_6), by decide⟩
theorem zg4_0_7 : zP54e [15, 1, 0, 478, 479, 105, 480] := ⟨z_m15, zca_15, rfl, rfl, rfl, (zat_2 138 rfl rfl), (zat_2 139 rfl rfl), (zat_1 5 rfl rfl), (zat_2 140 rfl rfl), (zyok_of (s := RX1) rfl zcm_1 zpd_7), by decide⟩
noncomputable def zg4L_0 : List (List Nat) := [[8, 1, 0, 423, 424, 105, 425], [9, 1, 0, 506, 507, 105, 508], [10, 0, 0, 647, 648, 105, 649], [11, 0, 0, 463, 464, 105, 465], [12, 3, 0, 733, 734, 105, 735], [13, 2, 0, 749, 750, 105, 751], [14, 2, 0, 502, 503, 105, 504], [15, 1, 0, 478, 479, 105, 480]]
theorem zg4A_0 : ∀ e ∈ zg4L_0, zP54e e := List.forall_mem_cons.mpr ⟨zg4_0_0, List.forall_mem_cons.mpr ⟨zg4_0_1, List.forall_mem_cons.mpr ⟨zg4_0_2, List.forall_mem_cons.mpr ⟨zg4_0_3, List.forall_mem_cons.mpr ⟨zg4_0_4, List.forall_mem_cons.mpr ⟨zg4_0_5, List.forall_mem_cons.mpr ⟨zg4_0_6, List.forall_mem_cons.mpr ⟨zg4_0_7, fun _ h => absurd h List.not_mem_nil⟩⟩⟩⟩⟩⟩⟩⟩
theorem zg4_1_0 : zP54e [16, 1, 0, 1054, 1055, 105, 1056] := ⟨z_m16, zca_16, rfl, rfl, rfl, (zat_4 234 rfl rfl), (zat_4 235 rfl rfl), (zat_1 5 rfl rfl), (zat_4 236 rfl rfl), (zyok_of (s := RX1) rfl zcm_1 zpd_7), by decide⟩
theorem zg4_1_1 : zP54e [17, 2, 0, 1167, 1168, 105, 1169] := ⟨z_m17, zca_17, rfl, rfl, rfl, (zat_5 107 rfl rfl), (zat_5 108 rfl rfl), (zat_1 5 rfl rfl), (zat_5 109 rfl rfl), (zyok_of (s := RX1) rfl zcm_1 zpd_5), by decide⟩
theorem zg4_1_2 : zP54e [18, 2, 0, 1174, 1175, 105, 1176] := ⟨z_m18, zca_18, rfl, rfl, rfl, (zat_5 114 rfl rfl), (zat_5 115 rfl rfl), (zat_1 5 rfl rfl), (zat_5 116 rfl rfl), (zyok_of (s := RX1) rfl zcm_1 zpd_5), by decide⟩
theorem zg4_1_3 : zP54e [19, 0, 0, 1411, 1412, 105, 1413] := ⟨z_m19, zca_19, rfl, rfl, rfl, (zat_6 111 rfl rfl), (zat_6 112 rfl rfl), (zat_1 5 rfl rfl), (zat_6 113 rfl rfl), (zyok_of (s := RX1) rfl zcm_1 zpd_3), by decide⟩
theorem zg4_1_4 : zP54e [20, 1, 0, 538, 539, 105, 540] := ⟨z_m20, zca_20, rfl, rfl, rfl, (zat_2 198 rfl rfl), (zat_2 199 rfl rfl), (zat_1 5 rfl rfl), (zat_2 200 rfl rfl), (zyok_of (s := RX1) rfl zcm_1 zpd_7), by decide⟩
theorem zg4_1_5 : zP54e [21, 0, 0, 534, 535, 105, 536] := ⟨z_m21, zca_21, rfl, rfl, rfl, (zat_2 194 rfl rfl), (zat_2 195 rfl rfl), (zat_1 5 rfl rfl), (zat_2 196 rfl rfl), (zyok_of (s := RX1) rfl zcm_1 zpd_3), by decide⟩
theorem zg4_1_6 : zP54e [23, 1, 1, 416, 417, 104, 418] := ⟨z_m23, zca_23, rfl, rfl, rfl, (zat_2 76 rfl rfl), (zat_2 77 rfl rfl), (zat_1 4 rfl rfl), (zat_2 78 rfl rfl), (zyok_of (s := RX2) rfl zcm_2 zpd_8), by decide⟩
theorem zg4_1_7 : zP54e [24, 1, 1, 616, 617, 104, 618] := ⟨z_m24, zca_24, rfl, rfl, rfl, (zat_3 36 rfl rfl), (zat_3 37 rfl rfl), (zat_1 4 rfl rfl), (zat_3 38 rfl rfl), (zyok_of (s := RX2) rfl zcm_2 zpd_7), by decide⟩
theorem zg4_1_8 : zP54e [25, 0, 1, 612, 613, 104, 614] := ⟨z_m25, zca_25, rfl, rfl, rfl, (zat_3 32 rfl rfl), (zat_3 33 rfl rfl), (zat_1 4 rfl rfl), (zat_3 34 rfl rfl), (zyok_of (s := RX2) rfl zcm_2 zpd_3), by decide⟩
theorem zg4_1_9 : zP54e [26, 1, 1, 448, 449, 104, 450] := ⟨z_m26, zca_26, rfl, rfl, rfl, (zat_2 108 rfl rfl), (zat_2 109 rfl rfl), (zat_1 4 rfl rfl), (zat_2 110 rfl rfl), (zyok_of (s := RX2) rfl zcm_2 zpd_7), by decide⟩
theorem zg4_1_10 : zP54e [27, 0, 1, 574, 575, 104, 576] := ⟨z_m27, zca_27, rfl, rfl, rfl, (zat_2 234 rfl rfl), (zat_2 235 rfl rfl), (zat_1 4 rfl rfl), (zat_2 236 rfl rfl), (zyok_of (s := RX2) rfl zcm_2 zpd_3), by decide⟩
theorem zg4_1_11 : zP54e [28, 1, 1, 467, 468, 104, 469] := ⟨z_m28, zca_28, rfl, rfl, rfl, (zat_2 127 rfl rfl), (zat_2 128 rfl rfl), (zat_1 4 rfl rfl), (zat_2 129 rfl rfl), (zyok_of (s := RX2) rfl zcm_2 zpd_7), by decide⟩
theorem zg4_1_12 : zP54e [29, 2, 1, 744, 745, 104, 746] := ⟨z_m29, zca_29, rfl, rfl, rfl, (zat_3 164 rfl rfl), (zat_3 165 rfl rfl), (zat_1 4 rfl rfl), (zat_3 166 rfl rfl), (zyok_of (s := RX2) rfl zcm_2 zpd_5), by decide⟩
theorem zg4_1_13 : zP54e [30, 2, 1, 1075, 1076, 104, 1077] := ⟨z_m30, zca_30, rfl, rfl, rfl, (zat_5 15 rfl rfl), (zat_5 16 rfl rfl), (zat_1 4 rfl rfl), (zat_5 17 rfl rfl), (zyok_of (s := RX2) rfl zcm_2 zpd_9), by decide⟩
theorem zg4_1_14 : zP54e [31, 2, 1, 1105, 1106, 104, 1107] := ⟨z_m31, zca_31, rfl, rfl, rfl, (zat_5 45 rfl rfl), (zat_5 46 rfl rfl), (zat_1 4 rfl rfl), (zat_5 47 rfl rfl), (zyok_of (s := RX2) rfl zcm_2 zpd_9), by decide⟩
noncomputable def zg4L_1 : List (List Nat) := [[16, 1, 0, 1054, 1055, 105, 1056], [17, 2, 0, 1167, 1168, 105, 1169], [18, 2, 0, 1174, 1175, 105, 1176], [19, 0, 0, 1411, 1412, 105, 1413], [20, 1, 0, 538, 539, 105, 540], [21, 0, 0, 534, 535, 105, 536], [23, 1, 1, 416, 417, 104, 418], [24, 1, 1, 616, 617, 104, 618], [25, 0, 1, 612, 613, 104, 614], [26, 1, 1, 448, 449, 104, 450], [27, 0, 1, 574, 575, 104, 576], [28, 1, 1, 467, 468, 104, 469], [29, 2, 1, 744, 745, 104, 746], [30, 2, 1, 1075, 1076, 104, 1077], [31, 2, 1, 1105, 1106, 104, 1107]]
theorem zg4A_1 : ∀ e ∈ zg4L_1, zP54e e := List.forall_mem_cons.mpr ⟨zg4_1_0, List.forall_mem_cons.mpr ⟨zg4_1_1, List.forall_mem_cons.mpr ⟨zg4_1_2, List.forall_mem_cons.mpr ⟨zg4_1_3, List.forall_mem_cons.mpr ⟨zg4_1_4, List.forall_mem_cons.mpr ⟨zg4_1_5, List.forall_mem_cons.mpr ⟨zg4_1_6, List.forall_mem_cons.mpr ⟨zg4_1_7, List.forall_mem_cons.mpr ⟨zg4_1_8, List.forall_mem_cons.mpr ⟨zg4_1_9, List.forall_mem_cons.mpr ⟨zg4_1_10, List.forall_mem_cons.mpr ⟨zg4_1_11, List.forall_mem_cons.mpr ⟨zg4_1_12, List.forall_mem_cons.mpr ⟨zg4_1_13, List.forall_mem_cons.mpr ⟨zg4_1_14, fun _ h => absurd h List.not_mem_nil⟩⟩⟩⟩⟩⟩⟩⟩⟩⟩⟩⟩⟩⟩⟩
theorem zg4_2_0 : zP54e [32, 1, 1, 1129, 1130, 104, 1131] := ⟨z_m32, zca_32, rfl, rfl, rfl, (zat_5 69 rfl rfl), (zat_5 70 rfl rfl), (zat_1 4 rfl rfl), (zat_5 71 rfl rfl), (zyok_of (s := RX2) rfl zcm_2 zpd_7), by decide⟩
theorem zg4_2_1 : zP54e [33, 2, 1, 1081, 11, 104, 1082] := ⟨z_m33, zca_33, rfl, rfl, rfl, (zat_5 21 rfl rfl), (zat_0 11 rfl rfl), (zat_1 4 rfl rfl), (zat_5 22 rfl rfl), (zyok_of (s := RX2) rfl zcm_2 zpd_5), by decide⟩
theorem zg4_2_2 : zP54e [34, 1, 1, 1239, 1240, 104, 1241] := ⟨z_m34, zca_34, rfl, rfl, rfl, (zat_5 179 rfl rfl), (zat_5 180 rfl rfl), (zat_1 4 rfl rfl), (zat_5 181 rfl rfl), (zyok_of (s := RX2) rfl zcm_2 zpd_10), by decide⟩
theorem zg4_2_3 : zP54e [35, 1, 1, 1249, 17, 104, 1250] := ⟨z_m35, zca_35, rfl, rfl, rfl, (zat_5 189 rfl rfl), (zat_0 17 rfl rfl), (zat_1 4 rfl rfl), (zat_5 190 rfl rfl), (zyok_of (s := RX2) rfl zcm_2 zpd_11), by decide⟩
theorem zg4_2_4 : zP54e [36, 0, 1, 1266, 19, 104, 1267] := ⟨z_m36, zca_36, rfl, rfl, rfl, (zat_5 206 rfl rfl), (zat_0 19 rfl rfl), (zat_1 4 rfl rfl), (zat_5 207 rfl rfl), (zyok_of (s := RX2) rfl zcm_2 zpd_12), by decide⟩
theorem zg4_2_5 : zP54e [37, 1, 1, 1270, 20, 104, 1271] := ⟨z_m37, zca_37, rfl, rfl, rfl, (zat_5 210 rfl rfl), (zat_0 20 rfl rfl), (zat_1 4 rfl rfl), (zat_5 211 rfl rfl), (zyok_of (s := RX2) rfl zcm_2 zpd_7), by decide⟩
theorem zg4_2_6 : zP54e [38, 2, 1, 1407, 1408, 104, 1409] := ⟨z_m38, zca_38, rfl, rfl, rfl, (zat_6 107 rfl rfl), (zat_6 108 rfl rfl), (zat_1 4 rfl rfl), (zat_6 109 rfl rfl), (zyok_of (s := RX2) rfl zcm_2 zpd_9), by decide⟩
theorem zg4_2_7 : zP54e [40, 1, 1, 1257, 18, 104, 1258] := ⟨z_m40, zca_40, rfl, rfl, rfl, (zat_5 197 rfl rfl), (zat_0 18 rfl rfl), (zat_1 4 rfl rfl), (zat_5 198 rfl rfl), (zyok_of (s := RX2) rfl zcm_2 zpd_1), by decide⟩
theorem zg4_2_8 : zP54e [42, 2, 2, 1091, 1092, 123, 1093] := ⟨z_m42, zca_42, rfl, rfl, rfl, (zat_5 31 rfl rfl), (zat_5 32 rfl rfl), (zat_1 23 rfl rfl), (zat_5 33 rfl rfl), (zyok_of (s := RX3) rfl zcm_3 zpd_13), by decide⟩
theorem zg4_2_9 : zP54e [43, 3, 2, 1096, 12, 123, 1097] := ⟨z_m43, zca_43, rfl, rfl, rfl, (zat_5 36 rfl rfl), (zat_0 12 rfl rfl), (zat_1 23 rfl rfl), (zat_5 37 rfl rfl), (zyok_of (s := RX3) rfl zcm_3 zpd_14), by decide⟩
theorem zg4_2_10 : zP54e [47, 1, 3, 890, 891, 103, 892] := ⟨z_m47, zca_47, rfl, rfl, rfl, (zat_4 70 rfl rfl), (zat_4 71 rfl rfl), (zat_1 3 rfl rfl), (zat_4 72 rfl rfl), (zyok_of (s := RX4) rfl zcm_4 zpd_15), by decide⟩
noncomputable def zg4L_2 : List (List Nat) := [[32, 1, 1, 1129, 1130, 104, 1131], [33, 2, 1, 1081, 11, 104, 1082], [34, 1, 1, 1239, 1240, 104, 1241], [35, 1, 1, 1249, 17, 104, 1250], [36, 0, 1, 1266, 19, 104, 1267], [37, 1, 1, 1270, 20, 104, 1271], [38, 2, 1, 1407, 1408, 104, 1409], [40, 1, 1, 1257, 18, 104, 1258], [42, 2, 2, 1091, 1092, 123, 1093], [43, 3, 2, 1096, 12, 123, 1097], [47, 1, 3, 890, 891, 103, 892]]
theorem zg4A_2 : ∀ e ∈ zg4L_2, zP54e e := List.forall_mem_cons.mpr ⟨zg4_2_0, List.forall_mem_cons.mpr ⟨zg4_2_1, List.forall_mem_cons.mpr ⟨zg4_2_2, List.forall_mem_cons.mpr ⟨zg4_2_3, List.forall_mem_cons.mpr ⟨zg4_2_4, List.forall_mem_cons.mpr ⟨zg4_2_5, List.forall_mem_cons.mpr ⟨zg4_2_6, List.forall_mem_cons.mpr ⟨zg4_2_7, List.forall_mem_cons.mpr ⟨zg4_2_8, List.forall_mem_cons.mpr ⟨zg4_2_9, List.forall_mem_cons.mpr ⟨zg4_2_10, fun _ h => absurd h List.not_mem_nil⟩⟩⟩⟩⟩⟩⟩⟩⟩⟩⟩
theorem zg4_3_0 : zP54e [48, 0, 3, 947, 948, 103, 949] := ⟨z_m48, zca_48, rfl, rfl, rfl, (zat_4 127 rfl rfl), (zat_4 128 rfl rfl), (zat_1 3 rfl rfl), (zat_4 129 rfl rfl), (zyok_of (s := RX4) rfl zcm_4 zpd_16), by decide⟩
theorem zg4_3_1 : zP54e [49, 1, 3, 897, 2, 103, 898] := ⟨z_m49, zca_49, rfl, rfl, rfl, (zat_4 77 rfl rfl), (zat_0 2 rfl rfl), (zat_1 3 rfl rfl), (zat_4 78 rfl rfl), (zyok_of (s := RX4) rfl zcm_4 zpd_15), by decide⟩
theorem zg4_3_2 : zP54e [50, 2, 3, 908, 3, 103, 909] := ⟨z_m50, zca_50, rfl, rfl, rfl, (zat_4 88 rfl rfl), (zat_0 3 rfl rfl), (zat_1 3 rfl rfl), (zat_4 89 rfl rfl), (zyok_of (s := RX4) rfl zcm_4 zpd_17), by decide⟩
theorem zg4_3_3 : zP54e [51, 2, 3, 912, 4, 103, 913] := ⟨z_m51, zca_51, rfl, rfl, rfl, (zat_4 92 rfl rfl), (zat_0 4 rfl rfl), (zat_1 3 rfl rfl), (zat_4 93 rfl rfl), (zyok_of (s := RX4) rfl zcm_4 zpd_17), by decide⟩
theorem zg4_3_4 : zP54e [52, 1, 3, 925, 6, 103, 926] := ⟨z_m52, zca_52, rfl, rfl, rfl, (zat_4 105 rfl rfl), (zat_0 6 rfl rfl), (zat_1 3 rfl rfl), (zat_4 106 rfl rfl), (zyok_of (s := RX4) rfl zcm_4 zpd_18), by decide⟩
theorem zg4_3_5 : zP54e [53, 1, 3, 929, 7, 103, 930] := ⟨z_m53, zca_53, rfl, rfl, rfl, (zat_4 109 rfl rfl), (zat_0 7 rfl rfl), (zat_1 3 rfl rfl), (zat_4 110 rfl rfl), (zyok_of (s := RX4) rfl zcm_4 zpd_18), by decide⟩
theorem zg4_3_6 : zP54e [54, 1, 3, 917, 5, 103, 918] := ⟨z_m54, zca_54, rfl, rfl, rfl, (zat_4 97 rfl rfl), (zat_0 5 rfl rfl), (zat_1 3 rfl rfl), (zat_4 98 rfl rfl), (zyok_of (s := RX4) rfl zcm_4 zpd_11), by decide⟩
theorem zg4_3_7 : zP54e [56, 1, 4, 433, 434, 107, 435] := ⟨z_m56, zca_56, rfl, rfl, rfl, (zat_2 93 rfl rfl), (zat_2 94 rfl rfl), (zat_1 7 rfl rfl), (zat_2 95 rfl rfl), (zyok_of (s := RX5) rfl zcm_5 zpd_19), by decide⟩
theorem zg4_3_8 : zP54e [57, 5, 4, 1260, 1261, 107, 1262] := ⟨z_m57, zca_57, rfl, rfl, rfl, (zat_5 200 rfl rfl), (zat_5 201 rfl rfl), (zat_1 7 rfl rfl), (zat_5 202 rfl rfl), (zyok_of (s := RX5) rfl zcm_5 zpd_20), by decide⟩
theorem zg4_3_9 : zP54e [58, 2, 4, 1435, 1436, 107, 1437] := ⟨z_m58, zca_58, rfl, rfl, rfl, (zat_6 135 rfl rfl), (zat_6 136 rfl rfl), (zat_1 7 rfl rfl), (zat_6 137 rfl rfl), (zyok_of (s := RX5) rfl zcm_5 zpd_9), by decide⟩
theorem zg4_3_10 : zP54e [59, 1, 4, 1440, 1441, 107, 1442] := ⟨z_m59, zca_59, rfl, rfl, rfl, (zat_6 140 rfl rfl), (zat_6 141 rfl rfl), (zat_1 7 rfl rfl), (zat_6 142 rfl rfl), (zyok_of (s := RX5) rfl zcm_5 zpd_7), by decide⟩
theorem zg4_3_11 : zP54e [60, 1, 4, 1431, 1432, 107, 1433] := ⟨z_m60, zca_60, rfl, rfl, rfl, (zat_6 131 rfl rfl), (zat_6 132 rfl rfl), (zat_1 7 rfl rfl), (zat_6 133 rfl rfl), (zyok_of (s := RX5) rfl zcm_5 zpd_7), by decide⟩
theorem zg4_3_12 : zP54e [62, 1, 5, 412, 413, 109, 414] := ⟨z_m62, zca_62, rfl, rfl, rfl, (zat_2 72 rfl rfl), (zat_2 73 rfl rfl), (zat_1 9 rfl rfl), (zat_2 74 rfl rfl), (zyok_of (s := RX6) rfl zcm_6 zpd_8), by decide⟩
theorem zg4_3_13 : zP54e [63, 1, 5, 591, 592, 109, 593] := ⟨z_m63, zca_63, rfl, rfl, rfl, (zat_3 11 rfl rfl), (zat_3 12 rfl rfl), (zat_1 9 rfl rfl), (zat_3 13 rfl rfl), (zyok_of (s := RX6) rfl zcm_6 zpd_21), by decide⟩
noncomputable def zg4L_3 : List (List Nat) := [[48, 0, 3, 947, 948, 103, 949], [49, 1, 3, 897, 2, 103, 898], [50, 2, 3, 908, 3, 103, 909], [51, 2, 3, 912, 4, 103, 913], [52, 1, 3, 925, 6, 103, 926], [53, 1, 3, 929, 7, 103, 930], [54, 1, 3, 917, 5, 103, 918], [56, 1, 4, 433, 434, 107, 435], [57, 5, 4, 1260, 1261, 107, 1262], [58, 2, 4, 1435, 1436, 107, 1437], [59, 1, 4, 1440, 1441, 107, 1442], [60, 1, 4, 1431, 1432, 107, 1433], [62, 1, 5, 412, 413, 109, 414], [63, 1, 5, 591, 592, 109, 593]]
theorem zg4A_3 : ∀ e ∈ zg4L_3, zP54e e := List.forall_mem_cons.mpr ⟨zg4_3_0, List.forall_mem_cons.mpr ⟨zg4_3_1, List.forall_mem_cons.mpr ⟨zg4_3_2, List.forall_mem_cons.mpr ⟨zg4_3_3, List.forall_mem_cons.mpr ⟨zg4_3_4, List.forall_mem_cons.mpr ⟨zg4_3_5, List.forall_mem_cons.mpr ⟨zg4_3_6, List.forall_mem_cons.mpr ⟨zg4_3_7, List.forall_mem_cons.mpr ⟨zg4_3_8, List.forall_mem_cons.mpr ⟨zg4_3_9, List.forall_mem_cons.mpr ⟨zg4_3_10, List.forall_mem_cons.mpr ⟨zg4_3_11, List.forall_mem_cons.mpr ⟨zg4_3_12, List.forall_mem_cons.mpr ⟨zg4_3_13, fun _ h => absurd h List.not_mem_nil⟩⟩⟩⟩⟩⟩⟩⟩⟩⟩⟩⟩⟩⟩
theorem zg4_4_0 : zP54e [64, 0, 5, 604, 605, 109, 606] := ⟨z_m64, zca_64, rfl, rfl, rfl, (zat_3 24 rfl rfl), (zat_3 25 rfl rfl), (zat_1 9 rfl rfl), (zat_3 26 rfl rfl), (zyok_of (s := RX6) rfl zcm_6 zpd_12), by decide⟩
noncomputable def zg4L_4 : List (List Nat) := [[64, 0, 5, 604, 605, 109, 606]]
theorem zg4A_4 : ∀ e ∈ zg4L_4, zP54e e := List.forall_mem_cons.mpr ⟨zg4_4_0, fun _ h => absurd h List.not_mem_nil⟩
theorem zg4_5_0 : zP54e [85, 1, 6, 396, 397, 102, 398] := ⟨z_m85, zca_85, rfl, rfl, rfl, (zat_2 56 rfl rfl), (zat_2 57 rfl rfl), (zat_1 2 rfl rfl), (zat_2 58 rfl rfl), (zyok_of (s := RX8) rfl zcm_8 zpd_11), by decide⟩
theorem zg4_5_1 : zP54e [86, 1, 6, 666, 667, 102, 668] := ⟨z_m86, zca_86, rfl, rfl, rfl, (zat_3 86 rfl rfl), (zat_3 87 rfl rfl), (zat_1 2 rfl rfl), (zat_3 88 rfl rfl), (zyok_of (s := RX8) rfl zcm_8 zpd_7), by decide⟩
theorem zg4_5_2 : zP54e [87, 0, 6, 632, 633, 102, 634] := ⟨z_m87, zca_87, rfl, rfl, rfl, (zat_3 52 rfl rfl), (zat_3 53 rfl rfl), (zat_1 2 rfl rfl), (zat_3 54 rfl rfl), (zyok_of (s := RX8) rfl zcm_8 zpd_12), by decide⟩
theorem zg4_5_3 : zP54e [88, 0, 6, 793, 794, 102, 795] := ⟨z_m88, zca_88, rfl, rfl, rfl, (zat_3 213 rfl rfl), (zat_3 214 rfl rfl), (zat_1 2 rfl rfl), (zat_3 215 rfl rfl), (zyok_of (s := RX8) rfl zcm_8 zpd_3), by decide⟩
theorem zg4_5_4 : zP54e [89, 0, 6, 640, 641, 102, 642] := ⟨z_m89, zca_89, rfl, rfl, rfl, (zat_3 60 rfl rfl), (zat_3 61 rfl rfl), (zat_1 2 rfl rfl), (zat_3 62 rfl rfl), (zyok_of (s := RX8) rfl zcm_8 zpd_2), by decide⟩
theorem zg4_5_5 : zP54e [90, 0, 6, 720, 721, 102, 722] := ⟨z_m90, zca_90, rfl, rfl, rfl, (zat_3 140 rfl rfl), (zat_3 141 rfl rfl), (zat_1 2 rfl rfl), (zat_3 142 rfl rfl), (zyok_of (s := RX8) rfl zcm_8 zpd_12), by decide⟩
theorem zg4_5_6 : zP54e [91, 1, 6, 652, 653, 102, 654] := ⟨z_m91, zca_91, rfl, rfl, rfl, (zat_3 72 rfl rfl), (zat_3 73 rfl rfl), (zat_1 2 rfl rfl), (zat_3 74 rfl rfl), (zyok_of (s := RX8) rfl zcm_8 zpd_22), by decide⟩
theorem zg4_5_7 : zP54e [92, 1, 6, 715, 716, 102, 717] := ⟨z_m92, zca_92, rfl, rfl, rfl, (zat_3 135 rfl rfl), (zat_3 136 rfl rfl), (zat_1 2 rfl rfl), (zat_3 137 rfl rfl), (zyok_of (s := RX8) rfl zcm_8 zpd_23), by decide⟩
theorem zg4_5_8 : zP54e [93, 1, 6, 789, 790, 102, 791] := ⟨z_m93, zca_93, rfl, rfl, rfl, (zat_3 209 rfl rfl), (zat_3 210 rfl rfl), (zat_1 2 rfl rfl), (zat_3 211 rfl rfl), (zyok_of (s := RX8) rfl zcm_8 zpd_24), by decide⟩
theorem zg4_5_9 : zP54e [94, 1, 6, 785, 786, 102, 787] := ⟨z_m94, zca_94, rfl, rfl, rfl, (zat_3 205 rfl rfl), (zat_3 206 rfl rfl), (zat_1 2 rfl rfl), (zat_3 207 rfl rfl), (zyok_of (s := RX8) rfl zcm_8 zpd_25), by decide⟩
theorem zg4_5_10 : zP54e [95, 0, 6, 932, 933, 102, 934] := ⟨z_m95, zca_95, rfl, rfl, rfl, (zat_4 112 rfl rfl), (zat_4 113 rfl rfl), (zat_1 2 rfl rfl), (zat_4 114 rfl rfl), (zyok_of (s := RX8) rfl zcm_8 zpd_2), by decide⟩
noncomputable def zg4L_5 : List (List Nat) := [[85, 1, 6, 396, 397, 102, 398], [86, 1, 6, 666, 667, 102, 668], [87, 0, 6, 632, 633, 102, 634], [88, 0, 6, 793, 794, 102, 795], [89, 0, 6, 640, 641, 102, 642], [90, 0, 6, 720, 721, 102, 722], [91, 1, 6, 652, 653, 102, 654], [92, 1, 6, 715, 716, 102, 717], [93, 1, 6, 789, 790, 102, 791], [94, 1, 6, 785, 786, 102, 787], [95, 0, 6, 932, 933, 102, 934]]
theorem zg4A_5 : ∀ e ∈ zg4L_5, zP54e e := List.forall_mem_cons.mpr ⟨zg4_5_0, List.forall_mem_cons.mpr ⟨zg4_5_1, List.forall_mem_cons.mpr ⟨zg4_5_2, List.forall_mem_cons.mpr ⟨zg4_5_3, List.forall_mem_cons.mpr ⟨zg4_5_4, List.forall_mem_cons.mpr ⟨zg4_5_5, List.forall_mem_cons.mpr ⟨zg4_5_6, List.forall_mem_cons.mpr ⟨zg4_5_7, List.forall_mem_cons.mpr ⟨zg4_5_8, List.forall_mem_cons.mpr ⟨zg4_5_9, List.forall_mem_cons.mpr ⟨zg4_5_10, fun _ h => absurd h List.not_mem_nil⟩⟩⟩⟩⟩⟩⟩⟩⟩⟩⟩
theorem zg4_6_0 : zP54e [96, 2, 6, 724, 725, 102, 726] := ⟨z_m96, zca_96, rfl, rfl, rfl, (zat_3 144 rfl rfl), (zat_3 145 rfl rfl), (zat_1 2 rfl rfl), (zat_3 146 rfl rfl), (zyok_of (s := RX8) rfl zcm_8 zpd_9), by decide⟩
theorem zg4_6_1 : zP54e [97, 0, 6, 637, 0, 102, 638] := ⟨z_m97, zca_97, rfl, rfl, rfl, (zat_3 57 rfl rfl), (zat_0 0 rfl rfl), (zat_1 2 rfl rfl), (zat_3 58 rfl rfl), (zyok_of (s := RX8) rfl zcm_8 zpd_12), by decide⟩
theorem zg4_6_2 : zP54e [101, 1, 7, 428, 429, 106, 430] := ⟨z_m101, zca_101, rfl, rfl, rfl, (zat_2 88 rfl rfl), (zat_2 89 rfl rfl), (zat_1 6 rfl rfl), (zat_2 90 rfl rfl), (zyok_of (s := RX9) rfl zcm_9 zpd_26), by decide⟩
theorem zg4_6_3 : zP54e [102, 1, 7, 1120, 1121, 106, 1122] := ⟨z_m102, zca_102, rfl, rfl, rfl, (zat_5 60 rfl rfl), (zat_5 61 rfl rfl), (zat_1 6 rfl rfl), (zat_5 62 rfl rfl), (zyok_of (s := RX9) rfl zcm_9 zpd_1), by decide⟩
theorem zg4_6_4 : zP54e [103, 0, 7, 753, 754, 106, 755] := ⟨z_m103, zca_103, rfl, rfl, rfl, (zat_3 173 rfl rfl), (zat_3 174 rfl rfl), (zat_1 6 rfl rfl), (zat_3 175 rfl rfl), (zyok_of (s := RX9) rfl zcm_9 zpd_2), by decide⟩
theorem zg4_6_5 : zP54e [104, 3, 7, 766, 767, 106, 768] := ⟨z_m104, zca_104, rfl, rfl, rfl, (zat_3 186 rfl rfl), (zat_3 187 rfl rfl), (zat_1 6 rfl rfl), (zat_3 188 rfl rfl), (zyok_of (s := RX9) rfl zcm_9 zpd_27), by decide⟩
theorem zg4_6_6 : zP54e [105, 1, 7, 1125, 1126, 106, 1127] := ⟨z_m105, zca_105, rfl, rfl, rfl, (zat_5 65 rfl rfl), (zat_5 66 rfl rfl), (zat_1 6 rfl rfl), (zat_5 67 rfl rfl), (zyok_of (s := RX9) rfl zcm_9 zpd_1), by decide⟩
theorem zg4_6_7 : zP54e [106, 1, 7, 771, 772, 106, 773] := ⟨z_m106, zca_106, rfl, rfl, rfl, (zat_3 191 rfl rfl), (zat_3 192 rfl rfl), (zat_1 6 rfl rfl), (zat_3 193 rfl rfl), (zyok_of (s := RX9) rfl zcm_9 zpd_11), by decide⟩
theorem zg4_6_8 : zP54e [107, 1, 7, 1216, 1217, 106, 1218] := ⟨z_m107, zca_107, rfl, rfl, rfl, (zat_5 156 rfl rfl), (zat_5 157 rfl rfl), (zat_1 6 rfl rfl), (zat_5 158 rfl rfl), (zyok_of (s := RX9) rfl zcm_9 zpd_11), by decide⟩
theorem zg4_6_9 : zP54e [108, 0, 7, 1084, 1085, 106, 1086] := ⟨z_m108, zca_108, rfl, rfl, rfl, (zat_5 24 rfl rfl), (zat_5 25 rfl rfl), (zat_1 6 rfl rfl), (zat_5 26 rfl rfl), (zyok_of (s := RX9) rfl zcm_9 zpd_3), by decide⟩
theorem zg4_6_10 : zP54e [109, 1, 7, 579, 580, 106, 581] := ⟨z_m109, zca_109, rfl, rfl, rfl, (zat_2 239 rfl rfl), (zat_3 0 rfl rfl), (zat_1 6 rfl rfl), (zat_3 1 rfl rfl), (zyok_of (s := RX9) rfl zcm_9 zpd_7), by decide⟩
noncomputable def zg4L_6 : List (List Nat) := [[96, 2, 6, 724, 725, 102, 726], [97, 0, 6, 637, 0, 102, 638], [101, 1, 7, 428, 429, 106, 430], [102, 1, 7, 1120, 1121, 106, 1122], [103, 0, 7, 753, 754, 106, 755], [104, 3, 7, 766, 767, 106, 768], [105, 1, 7, 1125, 1126, 106, 1127], [106, 1, 7, 771, 772, 106, 773], [107, 1, 7, 1216, 1217, 106, 1218], [108, 0, 7, 1084, 1085, 106, 1086], [109, 1, 7, 579, 580, 106, 581]]
theorem zg4A_6 : ∀ e ∈ zg4L_6, zP54e e := List.forall_mem_cons.mpr ⟨zg4_6_0, List.forall_mem_cons.mpr ⟨zg4_6_1, List.forall_mem_cons.mpr ⟨zg4_6_2, List.forall_mem_cons.mpr ⟨zg4_6_3, List.forall_mem_cons.mpr ⟨zg4_6_4, List.forall_mem_cons.mpr ⟨zg4_6_5, List.forall_mem_cons.mpr ⟨zg4_6_6, List.forall_mem_cons.mpr ⟨zg4_6_7, List.forall_mem_cons.mpr ⟨zg4_6_8, List.forall_mem_cons.mpr ⟨zg4_6_9, List.forall_mem_cons.mpr ⟨zg4_6_10, fun _ h => absurd h List.not_mem_nil⟩⟩⟩⟩⟩⟩⟩⟩⟩⟩⟩
theorem zg4_7_0 : zP54e [118, 5, 8, 392, 393, 101, 394] := ⟨z_m118, zca_118, rfl, rfl, rfl, (zat_2 52 rfl rfl), (zat_2 53 rfl rfl), (zat_1 1 rfl rfl), (zat_2 54 rfl rfl), (zyok_of (s := RX11) rfl zcm_11 zpd_28), by decide⟩
theorem zg4_7_1 : zP54e [119, 1, 8, 400, 401, 101, 402] := ⟨z_m119, zca_119, rfl, rfl, rfl, (zat_2 60 rfl rfl), (zat_2 61 rfl rfl), (zat_1 1 rfl rfl), (zat_2 62 rfl rfl), (zyok_of (s := RX11) rfl zcm_11 zpd_1), by decide⟩
theorem zg4_7_2 : zP54e [120, 0, 8, 625, 626, 101, 627] := ⟨z_m120, zca_120, rfl, rfl, rfl, (zat_3 45 rfl rfl), (zat_3 46 rfl rfl), (zat_1 1 rfl rfl), (zat_3 47 rfl rfl), (zyok_of (s := RX11) rfl zcm_11 zpd_3), by decide⟩
theorem zg4_7_3 : zP54e [121, 0, 8, 886, 887, 101, 888] := ⟨z_m121, zca_121, rfl, rfl, rfl, (zat_4 66 rfl rfl), (zat_4 67 rfl rfl), (zat_1 1 rfl rfl), (zat_4 68 rfl rfl), (zyok_of (s := RX11) rfl zcm_11 zpd_3), by decide⟩
theorem zg4_7_4 : zP54e [122, 0, 8, 404, 405, 101, 406] := ⟨z_m122, zca_122, rfl, rfl, rfl, (zat_2 64 rfl rfl), (zat_2 65 rfl rfl), (zat_1 1 rfl rfl), (zat_2 66 rfl rfl), (zyok_of (s := RX11) rfl zcm_11 zpd_3), by decide⟩
theorem zg4_7_5 : zP54e [123, 1, 8, 995, 996, 101, 997] := ⟨z_m123, zca_123, rfl, rfl, rfl, (zat_4 175 rfl rfl), (zat_4 176 rfl rfl), (zat_1 1 rfl rfl), (zat_4 177 rfl rfl), (zyok_of (s := RX11) rfl zcm_11 zpd_7), by decide⟩
theorem zg4_7_6 : zP54e [124, 2, 8, 1023, 1024, 101, 1025] := ⟨z_m124, zca_124, rfl, rfl, rfl, (zat_4 203 rfl rfl), (zat_4 204 rfl rfl), (zat_1 1 rfl rfl), (zat_4 205 rfl rfl), (zyok_of (s := RX11) rfl zcm_11 zpd_9), by decide⟩
theorem zg4_7_7 : zP54e [125, 3, 8, 1071, 1072, 101, 1073] := ⟨z_m125, zca_125, rfl, rfl, rfl, (zat_5 11 rfl rfl), (zat_5 12 rfl rfl), (zat_1 1 rfl rfl), (zat_5 13 rfl rfl), (zyok_of (s := RX11) rfl zcm_11 zpd_4), by decide⟩
theorem zg4_7_8 : zP54e [126, 2, 8, 1112, 1113, 101, 1114] := ⟨z_m126, zca_126, rfl, rfl, rfl, (zat_5 52 rfl rfl), (zat_5 53 rfl rfl), (zat_1 1 rfl rfl), (zat_5 54 rfl rfl), (zyok_of (s := RX11) rfl zcm_11 zpd_9), by decide⟩
theorem zg4_7_9 : zP54e [127, 2, 8, 1138, 1139, 101, 1140] := ⟨z_m127, zca_127, rfl, rfl, rfl, (zat_5 78 rfl rfl), (zat_5 79 rfl rfl), (zat_1 1 rfl rfl), (zat_5 80 rfl rfl), (zyok_of (s := RX11) rfl zcm_11 zpd_9), by decide⟩
noncomputable def zg4L_7 : List (List Nat) := [[118, 5, 8, 392, 393, 101, 394], [119, 1, 8, 400, 401, 101, 402], [120, 0, 8, 625, 626, 101, 627], [121, 0, 8, 886, 887, 101, 888], [122, 0, 8, 404, 405, 101, 406], [123, 1, 8, 995, 996, 101, 997], [124, 2, 8, 1023, 1024, 101, 1025], [125, 3, 8, 1071, 1072, 101, 1073], [126, 2, 8, 1112, 1113, 101, 1114], [127, 2, 8, 1138, 1139, 101, 1140]]
theorem zg4A_7 : ∀ e ∈ zg4L_7, zP54e e := List.forall_mem_cons.mpr ⟨zg4_7_0, List.forall_mem_cons.mpr ⟨zg4_7_1, List.forall_mem_cons.mpr ⟨zg4_7_2, List.forall_mem_cons.mpr ⟨zg4_7_3, List.forall_mem_cons.mpr ⟨zg4_7_4, List.forall_mem_cons.mpr ⟨zg4_7_5, List.forall_mem_cons.mpr ⟨zg4_7_6, List.forall_mem_cons.mpr ⟨zg4_7_7, List.forall_mem_cons.mpr ⟨zg4_7_8, List.forall_mem_cons.mpr ⟨zg4_7_9, fun _ h => absurd h List.not_mem_nil⟩⟩⟩⟩⟩⟩⟩⟩⟩⟩
theorem zg4_8_0 : zP54e [128, 2, 8, 1182, 1183, 101, 1184] := ⟨z_m128, zca_128, rfl, rfl, rfl, (zat_5 122 rfl rfl), (zat_5 123 rfl rfl), (zat_1 1 rfl rfl), (zat_5 124 rfl rfl), (zyok_of (s := RX11) rfl zcm_11 zpd_9), by decide⟩
theorem zg4_8_1 : zP54e [129, 2, 8, 1189, 1190, 101, 1191] := ⟨z_m129, zca_129, rfl, rfl, rfl, (zat_5 129 rfl rfl), (zat_5 130 rfl rfl), (zat_1 1 rfl rfl), (zat_5 131 rfl rfl), (zyok_of (s := RX11) rfl zcm_11 zpd_9), by decide⟩
theorem zg4_8_2 : zP54e [130, 1, 8, 1196, 1197, 101, 1198] := ⟨z_m130, zca_130, rfl, rfl, rfl, (zat_5 136 rfl rfl), (zat_5 137 rfl rfl), (zat_1 1 rfl rfl), (zat_5 138 rfl rfl), (zyok_of (s := RX11) rfl zcm_11 zpd_7), by decide⟩
theorem zg4_8_3 : zP54e [131, 1, 8, 1203, 1204, 101, 1205] := ⟨z_m131, zca_131, rfl, rfl, rfl, (zat_5 143 rfl rfl), (zat_5 144 rfl rfl), (zat_1 1 rfl rfl), (zat_5 145 rfl rfl), (zyok_of (s := RX11) rfl zcm_11 zpd_7), by decide⟩
theorem zg4_8_4 : zP54e [132, 1, 8, 1212, 1213, 101, 1214] := ⟨z_m132, zca_132, rfl, rfl, rfl, (zat_5 152 rfl rfl), (zat_5 153 rfl rfl), (zat_1 1 rfl rfl), (zat_5 154 rfl rfl), (zyok_of (s := RX11) rfl zcm_11 zpd_7), by decide⟩
theorem zg4_8_5 : zP54e [133, 0, 8, 1223, 1224, 101, 1225] := ⟨z_m133, zca_133, rfl, rfl, rfl, (zat_5 163 rfl rfl), (zat_5 164 rfl rfl), (zat_1 1 rfl rfl), (zat_5 165 rfl rfl), (zyok_of (s := RX11) rfl zcm_11 zpd_3), by decide⟩
theorem zg4_8_6 : zP54e [134, 0, 8, 408, 409, 101, 410] := ⟨z_m134, zca_134, rfl, rfl, rfl, (zat_2 68 rfl rfl), (zat_2 69 rfl rfl), (zat_1 1 rfl rfl), (zat_2 70 rfl rfl), (zyok_of (s := RX11) rfl zcm_11 zpd_3), by decide⟩
theorem zg4_8_7 : zP54e [135, 1, 8, 1230, 1231, 101, 1232] := ⟨z_m135, zca_135, rfl, rfl, rfl, (zat_5 170 rfl rfl), (zat_5 171 rfl rfl), (zat_1 1 rfl rfl), (zat_5 172 rfl rfl), (zyok_of (s := RX11) rfl zcm_11 zpd_7), by decide⟩
theorem zg4_8_8 : zP54e [136, 0, 8, 441, 442, 101, 443] := ⟨z_m136, zca_136, rfl, rfl, rfl, (zat_2 101 rfl rfl), (zat_2 102 rfl rfl), (zat_1 1 rfl rfl), (zat_2 103 rfl rfl), (zyok_of (s := RX11) rfl zcm_11 zpd_3), by decide⟩
theorem zg4_8_9 : zP54e [137, 2, 8, 1280, 1281, 101, 1282] := ⟨z_m137, zca_137, rfl, rfl, rfl, (zat_5 220 rfl rfl), (zat_5 221 rfl rfl), (zat_1 1 rfl rfl), (zat_5 222 rfl rfl), (zyok_of (s := RX11) rfl zcm_11 zpd_9), by decide⟩
theorem zg4_8_10 : zP54e [138, 0, 8, 455, 456, 101, 457] := ⟨z_m138, zca_138, rfl, rfl, rfl, (zat_2 115 rfl rfl), (zat_2 116 rfl rfl), (zat_1 1 rfl rfl), (zat_2 117 rfl rfl), (zyok_of (s := RX11) rfl zcm_11 zpd_3), by decide⟩
theorem zg4_8_11 : zP54e [139, 0, 8, 471, 472, 101, 473] := ⟨z_m139, zca_139, rfl, rfl, rfl, (zat_2 131 rfl rfl), (zat_2 132 rfl rfl), (zat_1 1 rfl rfl), (zat_2 133 rfl rfl), (zyok_of (s := RX11) rfl zcm_11 zpd_3), by decide⟩
theorem zg4_8_12 : zP54e [140, 0, 8, 489, 490, 101, 491] := ⟨z_m140, zca_140, rfl, rfl, rfl, (zat_2 149 rfl rfl), (zat_2 150 rfl rfl), (zat_1 1 rfl rfl), (zat_2 151 rfl rfl), (zyok_of (s := RX11) rfl zcm_11 zpd_3), by decide⟩
theorem zg4_8_13 : zP54e [141, 0, 8, 510, 511, 101, 512] := ⟨z_m141, zca_141, rfl, rfl, rfl, (zat_2 170 rfl rfl), (zat_2 171 rfl rfl), (zat_1 1 rfl rfl), (zat_2 172 rfl rfl), (zyok_of (s := RX11) rfl zcm_11 zpd_3), by decide⟩
theorem zg4_8_14 : zP54e [142, 1, 8, 518, 519, 101, 520] := ⟨z_m142, zca_142, rfl, rfl, rfl, (zat_2 178 rfl rfl), (zat_2 179 rfl rfl), (zat_1 1 rfl rfl), (zat_2 180 rfl rfl), (zyok_of (s := RX11) rfl zcm_11 zpd_7), by decide⟩
theorem zg4_8_15 : zP54e [143, 2, 8, 1288, 1289, 101, 1290] := ⟨z_m143, zca_143, rfl, rfl, rfl, (zat_5 228 rfl rfl), (zat_5 229 rfl rfl), (zat_1 1 rfl rfl), (zat_5 230 rfl rfl), (zyok_of (s := RX11) rfl zcm_11 zpd_9), by decide⟩
noncomputable def zg4L_8 : List (List Nat) := [[128, 2, 8, 1182, 1183, 101, 1184], [129, 2, 8, 1189, 1190, 101, 1191], [130, 1, 8, 1196, 1197, 101, 1198], [131, 1, 8, 1203, 1204, 101, 1205], [132, 1, 8, 1212, 1213, 101, 1214], [133, 0, 8, 1223, 1224, 101, 1225], [134, 0, 8, 408, 409, 101, 410], [135, 1, 8, 1230, 1231, 101, 1232], [136, 0, 8, 441, 442, 101, 443], [137, 2, 8, 1280, 1281, 101, 1282], [138, 0, 8, 455, 456, 101, 457], [139, 0, 8, 471, 472, 101, 473], [140, 0, 8, 489, 490, 101, 491], [141, 0, 8, 510, 511, 101, 512], [142, 1, 8, 518, 519, 101, 520], [143, 2, 8, 1288, 1289, 101, 1290]]
theorem zg4A_8 : ∀ e ∈ zg4L_8, zP54e e := List.forall_mem_cons.mpr ⟨zg4_8_0, List.forall_mem_cons.mpr ⟨zg4_8_1, List.forall_mem_cons.mpr ⟨zg4_8_2, List.forall_mem_cons.mpr ⟨zg4_8_3, List.forall_mem_cons.mpr ⟨zg4_8_4, List.forall_mem_cons.mpr ⟨zg4_8_5, List.forall_mem_cons.mpr ⟨zg4_8_6, List.forall_mem_cons.mpr ⟨zg4_8_7, List.forall_mem_cons.mpr ⟨zg4_8_8, List.forall_mem_cons.mpr ⟨zg4_8_9, List.forall_mem_cons.mpr ⟨zg4_8_10, List.forall_mem_cons.mpr ⟨zg4_8_11, List.forall_mem_cons.mpr ⟨zg4_8_12, List.forall_mem_cons.mpr ⟨zg4_8_13, List.forall_mem_cons.mpr ⟨zg4_8_14, List.forall_mem_cons.mpr ⟨zg4_8_15, fun _ h => absurd h List.not_mem_nil⟩⟩⟩⟩⟩⟩⟩⟩⟩⟩⟩⟩⟩⟩⟩⟩
theorem zg4_9_0 : zP54e [144, 1, 8, 1304, 1305, 101, 1306] := ⟨z_m144, zca_144, rfl, rfl, rfl, (zat_6 4 rfl rfl), (zat_6 5 rfl rfl), (zat_1 1 rfl rfl), (zat_6 6 rfl rfl), (zyok_of (s := RX11) rfl zcm_11 zpd_7), by decide⟩
theorem zg4_9_1 : zP54e [145, 3, 8, 1321, 1322, 101, 1323] := ⟨z_m145, zca_145, rfl, rfl, rfl, (zat_6 21 rfl rfl), (zat_6 22 rfl rfl), (zat_1 1 rfl rfl), (zat_6 23 rfl rfl), (zyok_of (s := RX11) rfl zcm_11 zpd_4), by decide⟩
theorem zg4_9_2 : zP54e [146, 1, 8, 1338, 1339, 101, 1340] := ⟨z_m146, zca_146, rfl, rfl, rfl, (zat_6 38 rfl rfl), (zat_6 39 rfl rfl), (zat_1 1 rfl rfl), (zat_6 40 rfl rfl), (zyok_of (s := RX11) rfl zcm_11 zpd_10), by decide⟩
theorem zg4_9_3 : zP54e [147, 0, 8, 530, 531, 101, 532] := ⟨z_m147, zca_147, rfl, rfl, rfl, (zat_2 190 rfl rfl), (zat_2 191 rfl rfl), (zat_1 1 rfl rfl), (zat_2 192 rfl rfl), (zyok_of (s := RX11) rfl zcm_11 zpd_3), by decide⟩
theorem zg4_9_4 : zP54e [148, 0, 8, 543, 544, 101, 545] := ⟨z_m148, zca_148, rfl, rfl, rfl, (zat_2 203 rfl rfl), (zat_2 204 rfl rfl), (zat_1 1 rfl rfl), (zat_2 205 rfl rfl), (zyok_of (s := RX11) rfl zcm_11 zpd_3), by decide⟩
theorem zg4_9_5 : zP54e [149, 1, 8, 1362, 1363, 101, 1364] := ⟨z_m149, zca_149, rfl, rfl, rfl, (zat_6 62 rfl rfl), (zat_6 63 rfl rfl), (zat_1 1 rfl rfl), (zat_6 64 rfl rfl), (zyok_of (s := RX11) rfl zcm_11 zpd_7), by decide⟩
theorem zg4_9_6 : zP54e [150, 0, 8, 556, 557, 101, 558] := ⟨z_m150, zca_150, rfl, rfl, rfl, (zat_2 216 rfl rfl), (zat_2 217 rfl rfl), (zat_1 1 rfl rfl), (zat_2 218 rfl rfl), (zyok_of (s := RX11) rfl zcm_11 zpd_3), by decide⟩
theorem zg4_9_7 : zP54e [151, 2, 8, 1375, 1376, 101, 1377] := ⟨z_m151, zca_151, rfl, rfl, rfl, (zat_6 75 rfl rfl), (zat_6 76 rfl rfl), (zat_1 1 rfl rfl), (zat_6 77 rfl rfl), (zyok_of (s := RX11) rfl zcm_11 zpd_9), by decide⟩
theorem zg4_9_8 : zP54e [152, 1, 8, 1382, 1383, 101, 1384] := ⟨z_m152, zca_152, rfl, rfl, rfl, (zat_6 82 rfl rfl), (zat_6 83 rfl rfl), (zat_1 1 rfl rfl), (zat_6 84 rfl rfl), (zyok_of (s := RX11) rfl zcm_11 zpd_7), by decide⟩
theorem zg4_9_9 : zP54e [153, 1, 8, 1389, 1390, 101, 1391] := ⟨z_m153, zca_153, rfl, rfl, rfl, (zat_6 89 rfl rfl), (zat_6 90 rfl rfl), (zat_1 1 rfl rfl), (zat_6 91 rfl rfl), (zyok_of (s := RX11) rfl zcm_11 zpd_7), by decide⟩
theorem zg4_9_10 : zP54e [154, 1, 8, 1396, 1397, 101, 1398] := ⟨z_m154, zca_154, rfl, rfl, rfl, (zat_6 96 rfl rfl), (zat_6 97 rfl rfl), (zat_1 1 rfl rfl), (zat_6 98 rfl rfl), (zyok_of (s := RX11) rfl zcm_11 zpd_7), by decide⟩
theorem zg4_9_11 : zP54e [155, 0, 8, 563, 564, 101, 565] := ⟨z_m155, zca_155, rfl, rfl, rfl, (zat_2 223 rfl rfl), (zat_2 224 rfl rfl), (zat_1 1 rfl rfl), (zat_2 225 rfl rfl), (zyok_of (s := RX11) rfl zcm_11 zpd_3), by decide⟩
theorem zg4_9_12 : zP54e [156, 0, 8, 570, 571, 101, 572] := ⟨z_m156, zca_156, rfl, rfl, rfl, (zat_2 230 rfl rfl), (zat_2 231 rfl rfl), (zat_1 1 rfl rfl), (zat_2 232 rfl rfl), (zyok_of (s := RX11) rfl zcm_11 zpd_3), by decide⟩
theorem zg4_9_13 : zP54e [157, 2, 8, 1403, 1404, 101, 1405] := ⟨z_m157, zca_157, rfl, rfl, rfl, (zat_6 103 rfl rfl), (zat_6 104 rfl rfl), (zat_1 1 rfl rfl), (zat_6 105 rfl rfl), (zyok_of (s := RX11) rfl zcm_11 zpd_29), by decide⟩
theorem zg4_9_14 : zP54e [158, 2, 8, 1418, 1419, 101, 1420] := ⟨z_m158, zca_158, rfl, rfl, rfl, (zat_6 118 rfl rfl), (zat_6 119 rfl rfl), (zat_1 1 rfl rfl), (zat_6 120 rfl rfl), (zyok_of (s := RX11) rfl zcm_11 zpd_29), by decide⟩
theorem zg4_9_15 : zP54e [159, 2, 8, 1427, 1428, 101, 1429] := ⟨z_m159, zca_159, rfl, rfl, rfl, (zat_6 127 rfl rfl), (zat_6 128 rfl rfl), (zat_1 1 rfl rfl), (zat_6 129 rfl rfl), (zyok_of (s := RX11) rfl zcm_11 zpd_29), by decide⟩
noncomputable def zg4L_9 : List (List Nat) := [[144, 1, 8, 1304, 1305, 101, 1306], [145, 3, 8, 1321, 1322, 101, 1323], [146, 1, 8, 1338, 1339, 101, 1340], [147, 0, 8, 530, 531, 101, 532], [148, 0, 8, 543, 544, 101, 545], [149, 1, 8, 1362, 1363, 101, 1364], [150, 0, 8, 556, 557, 101, 558], [151, 2, 8, 1375, 1376, 101, 1377], [152, 1, 8, 1382, 1383, 101, 1384], [153, 1, 8, 1389, 1390, 101, 1391], [154, 1, 8, 1396, 1397, 101, 1398], [155, 0, 8, 563, 564, 101, 565], [156, 0, 8, 570, 571, 101, 572], [157, 2, 8, 1403, 1404, 101, 1405], [158, 2, 8, 1418, 1419, 101, 1420], [159, 2, 8, 1427, 1428, 101, 1429]]
theorem zg4A_9 : ∀ e ∈ zg4L_9, zP54e e := List.forall_mem_cons.mpr ⟨zg4_9_0, List.forall_mem_cons.mpr ⟨zg4_9_1, List.forall_mem_cons.mpr ⟨zg4_9_2, List.forall_mem_cons.mpr ⟨zg4_9_3, List.forall_mem_cons.mpr ⟨zg4_9_4, List.forall_mem_cons.mpr ⟨zg4_9_5, List.forall_mem_cons.mpr ⟨zg4_9_6, List.forall_mem_cons.mpr ⟨zg4_9_7, List.forall_mem_cons.mpr ⟨zg4_9_8, List.forall_mem_cons.mpr ⟨zg4_9_9, List.forall_mem_cons.mpr ⟨zg4_9_10, List.forall_mem_cons.mpr ⟨zg4_9_11, List.forall_mem_cons.mpr ⟨zg4_9_12, List.forall_mem_cons.mpr ⟨zg4_9_13, List.forall_mem_cons.mpr ⟨zg4_9_14, List.forall_mem_cons.mpr ⟨zg4_9_15, fun _ h => absurd h List.not_mem_nil⟩⟩⟩⟩⟩⟩⟩⟩⟩⟩⟩⟩⟩⟩⟩⟩
theorem zg4_10_0 : zP54e [160, 2, 8, 1447, 1448, 101, 1449] := ⟨z_m160, zca_160, rfl, rfl, rfl, (zat_6 147 rfl rfl), (zat_6 148 rfl rfl), (zat_1 1 rfl rfl), (zat_6 149 rfl rfl), (zyok_of (s := RX11) rfl zcm_11 zpd_9), by decide⟩
theorem zg4_10_1 : zP54e [161, 1, 8, 583, 584, 101, 585] := ⟨z_m161, zca_161, rfl, rfl, rfl, (zat_3 3 rfl rfl), (zat_3 4 rfl rfl), (zat_1 1 rfl rfl), (zat_3 5 rfl rfl), (zyok_of (s := RX11) rfl zcm_11 zpd_7), by decide⟩
theorem zg4_10_2 : zP54e [162, 0, 8, 587, 588, 101, 589] := ⟨z_m162, zca_162, rfl, rfl, rfl, (zat_3 7 rfl rfl), (zat_3 8 rfl rfl), (zat_1 1 rfl rfl), (zat_3 9 rfl rfl), (zyok_of (s := RX11) rfl zcm_11 zpd_2), by decide⟩
theorem zg4_10_3 : zP54e [163, 0, 8, 595, 596, 101, 597] := ⟨z_m163, zca_163, rfl, rfl, rfl, (zat_3 15 rfl rfl), (zat_3 16 rfl rfl), (zat_1 1 rfl rfl), (zat_3 17 rfl rfl), (zyok_of (s := RX11) rfl zcm_11 zpd_12), by decide⟩
theorem zg4_10_4 : zP54e [164, 0, 8, 600, 601, 101, 602] := ⟨z_m164, zca_164, rfl, rfl, rfl, (zat_3 20 rfl rfl), (zat_3 21 rfl rfl), (zat_1 1 rfl rfl), (zat_3 22 rfl rfl), (zyok_of (s := RX11) rfl zcm_11 zpd_2), by decide⟩
theorem zg4_10_5 : zP54e [165, 1, 8, 608, 609, 101, 610] := ⟨z_m165, zca_165, rfl, rfl, rfl, (zat_3 28 rfl rfl), (zat_3 29 rfl rfl), (zat_1 1 rfl rfl), (zat_3 30 rfl rfl), (zyok_of (s := RX11) rfl zcm_11 zpd_7), by decide⟩
theorem zg4_10_6 : zP54e [166, 1, 8, 1000, 8, 101, 1001] := ⟨z_m166, zca_166, rfl, rfl, rfl, (zat_4 180 rfl rfl), (zat_0 8 rfl rfl), (zat_1 1 rfl rfl), (zat_4 181 rfl rfl), (zyok_of (s := RX11) rfl zcm_11 zpd_11), by decide⟩
theorem zg4_10_7 : zP54e [167, 1, 8, 1028, 9, 101, 1029] := ⟨z_m167, zca_167, rfl, rfl, rfl, (zat_4 208 rfl rfl), (zat_0 9 rfl rfl), (zat_1 1 rfl rfl), (zat_4 209 rfl rfl), (zyok_of (s := RX11) rfl zcm_11 zpd_11), by decide⟩
theorem zg4_10_8 : zP54e [168, 1, 8, 1117, 13, 101, 1118] := ⟨z_m168, zca_168, rfl, rfl, rfl, (zat_5 57 rfl rfl), (zat_0 13 rfl rfl), (zat_1 1 rfl rfl), (zat_5 58 rfl rfl), (zyok_of (s := RX11) rfl zcm_11 zpd_11), by decide⟩
theorem zg4_10_9 : zP54e [169, 2, 8, 1034, 10, 101, 1035] := ⟨z_m169, zca_169, rfl, rfl, rfl, (zat_4 214 rfl rfl), (zat_0 10 rfl rfl), (zat_1 1 rfl rfl), (zat_4 215 rfl rfl), (zyok_of (s := RX11) rfl zcm_11 zpd_5), by decide⟩
theorem zg4_10_10 : zP54e [170, 3, 8, 1235, 16, 101, 1236] := ⟨z_m170, zca_170, rfl, rfl, rfl, (zat_5 175 rfl rfl), (zat_0 16 rfl rfl), (zat_1 1 rfl rfl), (zat_5 176 rfl rfl), (zyok_of (s := RX11) rfl zcm_11 zpd_30), by decide⟩
theorem zg4_10_11 : zP54e [171, 2, 8, 1143, 14, 101, 1144] := ⟨z_m171, zca_171, rfl, rfl, rfl, (zat_5 83 rfl rfl), (zat_0 14 rfl rfl), (zat_1 1 rfl rfl), (zat_5 84 rfl rfl), (zyok_of (s := RX11) rfl zcm_11 zpd_5), by decide⟩
theorem zg4_10_12 : zP54e [172, 1, 8, 1148, 15, 101, 1149] := ⟨z_m172, zca_172, rfl, rfl, rfl, (zat_5 88 rfl rfl), (zat_0 15 rfl rfl), (zat_1 1 rfl rfl), (zat_5 89 rfl rfl), (zyok_of (s := RX11) rfl zcm_11 zpd_31), by decide⟩
theorem zg4_10_13 : zP54e [173, 0, 8, 1343, 21, 101, 1344] := ⟨z_m173, zca_173, rfl, rfl, rfl, (zat_6 43 rfl rfl), (zat_0 21 rfl rfl), (zat_1 1 rfl rfl), (zat_6 44 rfl rfl), (zyok_of (s := RX11) rfl zcm_11 zpd_2), by decide⟩
theorem zg4_10_14 : zP54e [174, 0, 8, 1354, 23, 101, 1355] := ⟨z_m174, zca_174, rfl, rfl, rfl, (zat_6 54 rfl rfl), (zat_0 23 rfl rfl), (zat_1 1 rfl rfl), (zat_6 55 rfl rfl), (zyok_of (s := RX11) rfl zcm_11 zpd_3), by decide⟩
theorem zg4_10_15 : zP54e [175, 0, 8, 1348, 22, 101, 1349] := ⟨z_m175, zca_175, rfl, rfl, rfl, (zat_6 48 rfl rfl), (zat_0 22 rfl rfl), (zat_1 1 rfl rfl), (zat_6 49 rfl rfl), (zyok_of (s := RX11) rfl zcm_11 zpd_3), by decide⟩
noncomputable def zg4L_10 : List (List Nat) := [[160, 2, 8, 1447, 1448, 101, 1449], [161, 1, 8, 583, 584, 101, 585], [162, 0, 8, 587, 588, 101, 589], [163, 0, 8, 595, 596, 101, 597], [164, 0, 8, 600, 601, 101, 602], [165, 1, 8, 608, 609, 101, 610], [166, 1, 8, 1000, 8, 101, 1001], [167, 1, 8, 1028, 9, 101, 1029], [168, 1, 8, 1117, 13, 101, 1118], [169, 2, 8, 1034, 10, 101, 1035], [170, 3, 8, 1235, 16, 101, 1236], [171, 2, 8, 1143, 14, 101, 1144], [172, 1, 8, 1148, 15, 101, 1149], [173, 0, 8, 1343, 21, 101, 1344], [174, 0, 8, 1354, 23, 101, 1355], [175, 0, 8, 1348, 22, 101, 1349]]
theorem zg4A_10 : ∀ e ∈ zg4L_10, zP54e e := List.forall_mem_cons.mpr ⟨zg4_10_0, List.forall_mem_cons.mpr ⟨zg4_10_1, List.forall_mem_cons.mpr ⟨zg4_10_2, List.forall_mem_cons.mpr ⟨zg4_10_3, List.forall_mem_cons.mpr ⟨zg4_10_4, List.forall_mem_cons.mpr ⟨zg4_10_5, List.forall_mem_cons.mpr ⟨zg4_10_6, List.forall_mem_cons.mpr ⟨zg4_10_7, List.forall_mem_cons.mpr ⟨zg4_10_8, List.forall_mem_cons.mpr ⟨zg4_10_9, List.forall_mem_cons.mpr ⟨zg4_10_10, List.forall_mem_cons.mpr ⟨zg4_10_11, List.forall_mem_cons.mpr ⟨zg4_10_12, List.forall_mem_cons.mpr ⟨zg4_10_13, List.forall_mem_cons.mpr ⟨zg4_10_14, List.forall_mem_cons.mpr ⟨zg4_10_15, fun _ h => absurd h List.not_mem_nil⟩⟩⟩⟩⟩⟩⟩⟩⟩⟩⟩⟩⟩⟩⟩⟩
theorem zg4_11_0 : zP54e [176, 2, 9, 1729, 56, 110, 1730] := ⟨z_m176, zca_176, rfl, rfl, rfl, (zat_7 189 rfl rfl), (zat_0 56 rfl rfl), (zat_1 10 rfl rfl), (zat_7 190 rfl rfl), (zyok_of (s := RX12) rfl zcm_12 zpd_32), by decide⟩
theorem zg4_11_1 : zP54e [180, 0, 9, 1532, 1533, 110, 1534] := ⟨z_m180, zca_180, rfl, rfl, rfl, (zat_6 232 rfl rfl), (zat_6 233 rfl rfl), (zat_1 10 rfl rfl), (zat_6 234 rfl rfl), (zyok_of (s := RX12) rfl zcm_12 zpd_12), by decide⟩
theorem zg4_11_2 : zP54e [181, 0, 9, 1536, 1537, 110, 1538] := ⟨z_m181, zca_181, rfl, rfl, rfl, (zat_6 236 rfl rfl), (zat_6 237 rfl rfl), (zat_1 10 rfl rfl), (zat_6 238 rfl rfl), (zyok_of (s := RX12) rfl zcm_12 zpd_2), by decide⟩
theorem zg4_11_3 : zP54e [182, 0, 9, 1847, 76, 110, 1848] := ⟨z_m182, zca_182, rfl, rfl, rfl, (zat_8 67 rfl rfl), (zat_0 76 rfl rfl), (zat_1 10 rfl rfl), (zat_8 68 rfl rfl), (zyok_of (s := RX12) rfl zcm_12 zpd_12), by decide⟩
theorem zg4_11_4 : zP54e [183, 0, 9, 1540, 1541, 110, 1542] := ⟨z_m183, zca_183, rfl, rfl, rfl, (zat_7 0 rfl rfl), (zat_7 1 rfl rfl), (zat_1 10 rfl rfl), (zat_7 2 rfl rfl), (zyok_of (s := RX12) rfl zcm_12 zpd_2), by decide⟩
theorem zg4_11_5 : zP54e [184, 0, 9, 1600, 33, 110, 1601] := ⟨z_m184, zca_184, rfl, rfl, rfl, (zat_7 60 rfl rfl), (zat_0 33 rfl rfl), (zat_1 10 rfl rfl), (zat_7 61 rfl rfl), (zyok_of (s := RX12) rfl zcm_12 zpd_3), by decide⟩
theorem zg4_11_6 : zP54e [185, 0, 9, 1661, 44, 110, 1662] := ⟨z_m185, zca_185, rfl, rfl, rfl, (zat_7 121 rfl rfl), (zat_0 44 rfl rfl), (zat_1 10 rfl rfl), (zat_7 122 rfl rfl), (zyok_of (s := RX12) rfl zcm_12 zpd_3), by decide⟩
theorem zg4_11_7 : zP54e [186, 1, 9, 1639, 39, 110, 1640] := ⟨z_m186, zca_186, rfl, rfl, rfl, (zat_7 99 rfl rfl), (zat_0 39 rfl rfl), (zat_1 10 rfl rfl), (zat_7 100 rfl rfl), (zyok_of (s := RX12) rfl zcm_12 zpd_7), by decide⟩
theorem zg4_11_8 : zP54e [188, 0, 9, 1872, 78, 110, 1873] := ⟨z_m188, zca_188, rfl, rfl, rfl, (zat_8 92 rfl rfl), (zat_0 78 rfl rfl), (zat_1 10 rfl rfl), (zat_8 93 rfl rfl), (zyok_of (s := RX12) rfl zcm_12 zpd_3), by decide⟩
theorem zg4_11_9 : zP54e [190, 2, 9, 1776, 62, 110, 1777] := ⟨z_m190, zca_190, rfl, rfl, rfl, (zat_7 236 rfl rfl), (zat_0 62 rfl rfl), (zat_1 10 rfl rfl), (zat_7 237 rfl rfl), (zyok_of (s := RX12) rfl zcm_12 zpd_9), by decide⟩
theorem zg4_11_10 : zP54e [191, 2, 9, 1823, 72, 110, 1824] := ⟨z_m191, zca_191, rfl, rfl, rfl, (zat_8 43 rfl rfl), (zat_0 72 rfl rfl), (zat_1 10 rfl rfl), (zat_8 44 rfl rfl), (zyok_of (s := RX12) rfl zcm_12 zpd_6), by decide⟩
noncomputable def zg4L_11 : List (List Nat) := [[176, 2, 9, 1729, 56, 110, 1730], [180, 0, 9, 1532, 1533, 110, 1534], [181, 0, 9, 1536, 1537, 110, 1538], [182, 0, 9, 1847, 76, 110, 1848], [183, 0, 9, 1540, 1541, 110, 1542], [184, 0, 9, 1600, 33, 110, 1601], [185, 0, 9, 1661, 44, 110, 1662], [186, 1, 9, 1639, 39, 110, 1640], [188, 0, 9, 1872, 78, 110, 1873], [190, 2, 9, 1776, 62, 110, 1777], [191, 2, 9, 1823, 72, 110, 1824]]
theorem zg4A_11 : ∀ e ∈ zg4L_11, zP54e e := List.forall_mem_cons.mpr ⟨zg4_11_0, List.forall_mem_cons.mpr ⟨zg4_11_1, List.forall_mem_cons.mpr ⟨zg4_11_2, List.forall_mem_cons.mpr ⟨zg4_11_3, List.forall_mem_cons.mpr ⟨zg4_11_4, List.forall_mem_cons.mpr ⟨zg4_11_5, List.forall_mem_cons.mpr ⟨zg4_11_6, List.forall_mem_cons.mpr ⟨zg4_11_7, List.forall_mem_cons.mpr ⟨zg4_11_8, List.forall_mem_cons.mpr ⟨zg4_11_9, List.forall_mem_cons.mpr ⟨zg4_11_10, fun _ h => absurd h List.not_mem_nil⟩⟩⟩⟩⟩⟩⟩⟩⟩⟩⟩
theorem zg4_12_0 : zP54e [193, 2, 9, 1812, 70, 110, 1813] := ⟨z_m193, zca_193, rfl, rfl, rfl, (zat_8 32 rfl rfl), (zat_0 70 rfl rfl), (zat_1 10 rfl rfl), (zat_8 33 rfl rfl), (zyok_of (s := RX12) rfl zcm_12 zpd_9), by decide⟩
theorem zg4_12_1 : zP54e [194, 1, 9, 1808, 69, 110, 1809] := ⟨z_m194, zca_194, rfl, rfl, rfl, (zat_8 28 rfl rfl), (zat_0 69 rfl rfl), (zat_1 10 rfl rfl), (zat_8 29 rfl rfl), (zyok_of (s := RX12) rfl zcm_12 zpd_1), by decide⟩
theorem zg4_12_2 : zP54e [195, 1, 9, 1751, 57, 110, 1752] := ⟨z_m195, zca_195, rfl, rfl, rfl, (zat_7 211 rfl rfl), (zat_0 57 rfl rfl), (zat_1 10 rfl rfl), (zat_7 212 rfl rfl), (zyok_of (s := RX12) rfl zcm_12 zpd_1), by decide⟩
theorem zg4_12_3 : zP54e [196, 1, 9, 1835, 74, 110, 1836] := ⟨z_m196, zca_196, rfl, rfl, rfl, (zat_8 55 rfl rfl), (zat_0 74 rfl rfl), (zat_1 10 rfl rfl), (zat_8 56 rfl rfl), (zyok_of (s := RX12) rfl zcm_12 zpd_1), by decide⟩
theorem zg4_12_4 : zP54e [198, 1, 9, 1908, 83, 110, 1909] := ⟨z_m198, zca_198, rfl, rfl, rfl, (zat_8 128 rfl rfl), (zat_0 83 rfl rfl), (zat_1 10 rfl rfl), (zat_8 129 rfl rfl), (zyok_of (s := RX12) rfl zcm_12 zpd_7), by decide⟩
theorem zg4_12_5 : zP54e [199, 5, 9, 1544, 1545, 110, 1546] := ⟨z_m199, zca_199, rfl, rfl, rfl, (zat_7 4 rfl rfl), (zat_7 5 rfl rfl), (zat_1 10 rfl rfl), (zat_7 6 rfl rfl), (zyok_of (s := RX12) rfl zcm_12 zpd_28), by decide⟩
theorem zg4_12_6 : zP54e [200, 1, 9, 1548, 1549, 110, 1550] := ⟨z_m200, zca_200, rfl, rfl, rfl, (zat_7 8 rfl rfl), (zat_7 9 rfl rfl), (zat_1 10 rfl rfl), (zat_7 10 rfl rfl), (zyok_of (s := RX12) rfl zcm_12 zpd_1), by decide⟩
theorem zg4_12_7 : zP54e [201, 2, 9, 1573, 27, 110, 1574] := ⟨z_m201, zca_201, rfl, rfl, rfl, (zat_7 33 rfl rfl), (zat_0 27 rfl rfl), (zat_1 10 rfl rfl), (zat_7 34 rfl rfl), (zyok_of (s := RX12) rfl zcm_12 zpd_6), by decide⟩
theorem zg4_12_8 : zP54e [202, 0, 9, 1569, 26, 110, 1570] := ⟨z_m202, zca_202, rfl, rfl, rfl, (zat_7 29 rfl rfl), (zat_0 26 rfl rfl), (zat_1 10 rfl rfl), (zat_7 30 rfl rfl), (zyok_of (s := RX12) rfl zcm_12 zpd_12), by decide⟩
theorem zg4_12_9 : zP54e [203, 0, 9, 1581, 29, 110, 1582] := ⟨z_m203, zca_203, rfl, rfl, rfl, (zat_7 41 rfl rfl), (zat_0 29 rfl rfl), (zat_1 10 rfl rfl), (zat_7 42 rfl rfl), (zyok_of (s := RX12) rfl zcm_12 zpd_12), by decide⟩
theorem zg4_12_10 : zP54e [204, 1, 9, 1590, 31, 110, 1591] := ⟨z_m204, zca_204, rfl, rfl, rfl, (zat_7 50 rfl rfl), (zat_0 31 rfl rfl), (zat_1 10 rfl rfl), (zat_7 51 rfl rfl), (zyok_of (s := RX12) rfl zcm_12 zpd_22), by decide⟩
theorem zg4_12_11 : zP54e [205, 1, 9, 1616, 36, 110, 1617] := ⟨z_m205, zca_205, rfl, rfl, rfl, (zat_7 76 rfl rfl), (zat_0 36 rfl rfl), (zat_1 10 rfl rfl), (zat_7 77 rfl rfl), (zyok_of (s := RX12) rfl zcm_12 zpd_22), by decide⟩
theorem zg4_12_12 : zP54e [206, 1, 9, 1701, 51, 110, 1702] := ⟨z_m206, zca_206, rfl, rfl, rfl, (zat_7 161 rfl rfl), (zat_0 51 rfl rfl), (zat_1 10 rfl rfl), (zat_7 162 rfl rfl), (zyok_of (s := RX12) rfl zcm_12 zpd_1), by decide⟩
theorem zg4_12_13 : zP54e [207, 2, 9, 1609, 35, 110, 1610] := ⟨z_m207, zca_207, rfl, rfl, rfl, (zat_7 69 rfl rfl), (zat_0 35 rfl rfl), (zat_1 10 rfl rfl), (zat_7 70 rfl rfl), (zyok_of (s := RX12) rfl zcm_12 zpd_9), by decide⟩
noncomputable def zg4L_12 : List (List Nat) := [[193, 2, 9, 1812, 70, 110, 1813], [194, 1, 9, 1808, 69, 110, 1809], [195, 1, 9, 1751, 57, 110, 1752], [196, 1, 9, 1835, 74, 110, 1836], [198, 1, 9, 1908, 83, 110, 1909], [199, 5, 9, 1544, 1545, 110, 1546], [200, 1, 9, 1548, 1549, 110, 1550], [201, 2, 9, 1573, 27, 110, 1574], [202, 0, 9, 1569, 26, 110, 1570], [203, 0, 9, 1581, 29, 110, 1582], [204, 1, 9, 1590, 31, 110, 1591], [205, 1, 9, 1616, 36, 110, 1617], [206, 1, 9, 1701, 51, 110, 1702], [207, 2, 9, 1609, 35, 110, 1610]]
theorem zg4A_12 : ∀ e ∈ zg4L_12, zP54e e := List.forall_mem_cons.mpr ⟨zg4_12_0, List.forall_mem_cons.mpr ⟨zg4_12_1, List.forall_mem_cons.mpr ⟨zg4_12_2, List.forall_mem_cons.mpr ⟨zg4_12_3, List.forall_mem_cons.mpr ⟨zg4_12_4, List.forall_mem_cons.mpr ⟨zg4_12_5, List.forall_mem_cons.mpr ⟨zg4_12_6, List.forall_mem_cons.mpr ⟨zg4_12_7, List.forall_mem_cons.mpr ⟨zg4_12_8, List.forall_mem_cons.mpr ⟨zg4_12_9, List.forall_mem_cons.mpr ⟨zg4_12_10, List.forall_mem_cons.mpr ⟨zg4_12_11, List.forall_mem_cons.mpr ⟨zg4_12_12, List.forall_mem_cons.mpr ⟨zg4_12_13, fun _ h => absurd h List.not_mem_nil⟩⟩⟩⟩⟩⟩⟩⟩⟩⟩⟩⟩⟩⟩
theorem zg4_13_0 : zP54e [208, 3, 9, 1605, 34, 110, 1606] := ⟨z_m208, zca_208, rfl, rfl, rfl, (zat_7 65 rfl rfl), (zat_0 34 rfl rfl), (zat_1 10 rfl rfl), (zat_7 66 rfl rfl), (zyok_of (s := RX12) rfl zcm_12 zpd_33), by decide⟩
theorem zg4_13_1 : zP54e [209, 0, 9, 1552, 1553, 110, 1554] := ⟨z_m209, zca_209, rfl, rfl, rfl, (zat_7 12 rfl rfl), (zat_7 13 rfl rfl), (zat_1 10 rfl rfl), (zat_7 14 rfl rfl), (zyok_of (s := RX12) rfl zcm_12 zpd_3), by decide⟩
theorem zg4_13_2 : zP54e [210, 0, 9, 1565, 25, 110, 1566] := ⟨z_m210, zca_210, rfl, rfl, rfl, (zat_7 25 rfl rfl), (zat_0 25 rfl rfl), (zat_1 10 rfl rfl), (zat_7 26 rfl rfl), (zyok_of (s := RX12) rfl zcm_12 zpd_12), by decide⟩
theorem zg4_13_3 : zP54e [211, 3, 9, 1675, 46, 110, 1676] := ⟨z_m211, zca_211, rfl, rfl, rfl, (zat_7 135 rfl rfl), (zat_0 46 rfl rfl), (zat_1 10 rfl rfl), (zat_7 136 rfl rfl), (zyok_of (s := RX12) rfl zcm_12 zpd_34), by decide⟩
theorem zg4_13_4 : zP54e [212, 0, 9, 1620, 37, 110, 1621] := ⟨z_m212, zca_212, rfl, rfl, rfl, (zat_7 80 rfl rfl), (zat_0 37 rfl rfl), (zat_1 10 rfl rfl), (zat_7 81 rfl rfl), (zyok_of (s := RX12) rfl zcm_12 zpd_3), by decide⟩
theorem zg4_13_5 : zP54e [213, 2, 9, 1632, 38, 110, 1633] := ⟨z_m213, zca_213, rfl, rfl, rfl, (zat_7 92 rfl rfl), (zat_0 38 rfl rfl), (zat_1 10 rfl rfl), (zat_7 93 rfl rfl), (zyok_of (s := RX12) rfl zcm_12 zpd_5), by decide⟩
theorem zg4_13_6 : zP54e [214, 0, 9, 1596, 32, 110, 1597] := ⟨z_m214, zca_214, rfl, rfl, rfl, (zat_7 56 rfl rfl), (zat_0 32 rfl rfl), (zat_1 10 rfl rfl), (zat_7 57 rfl rfl), (zyok_of (s := RX12) rfl zcm_12 zpd_2), by decide⟩
theorem zg4_13_7 : zP54e [215, 0, 9, 1647, 41, 110, 1648] := ⟨z_m215, zca_215, rfl, rfl, rfl, (zat_7 107 rfl rfl), (zat_0 41 rfl rfl), (zat_1 10 rfl rfl), (zat_7 108 rfl rfl), (zyok_of (s := RX12) rfl zcm_12 zpd_3), by decide⟩
theorem zg4_13_8 : zP54e [216, 0, 9, 1643, 40, 110, 1644] := ⟨z_m216, zca_216, rfl, rfl, rfl, (zat_7 103 rfl rfl), (zat_0 40 rfl rfl), (zat_1 10 rfl rfl), (zat_7 104 rfl rfl), (zyok_of (s := RX12) rfl zcm_12 zpd_2), by decide⟩
theorem zg4_13_9 : zP54e [217, 0, 9, 1652, 42, 110, 1653] := ⟨z_m217, zca_217, rfl, rfl, rfl, (zat_7 112 rfl rfl), (zat_0 42 rfl rfl), (zat_1 10 rfl rfl), (zat_7 113 rfl rfl), (zyok_of (s := RX12) rfl zcm_12 zpd_2), by decide⟩
theorem zg4_13_10 : zP54e [218, 0, 9, 1670, 45, 110, 1671] := ⟨z_m218, zca_218, rfl, rfl, rfl, (zat_7 130 rfl rfl), (zat_0 45 rfl rfl), (zat_1 10 rfl rfl), (zat_7 131 rfl rfl), (zyok_of (s := RX12) rfl zcm_12 zpd_2), by decide⟩
theorem zg4_13_11 : zP54e [219, 0, 9, 1657, 43, 110, 1658] := ⟨z_m219, zca_219, rfl, rfl, rfl, (zat_7 117 rfl rfl), (zat_0 43 rfl rfl), (zat_1 10 rfl rfl), (zat_7 118 rfl rfl), (zyok_of (s := RX12) rfl zcm_12 zpd_2), by decide⟩
theorem zg4_13_12 : zP54e [220, 0, 9, 1585, 30, 110, 1586] := ⟨z_m220, zca_220, rfl, rfl, rfl, (zat_7 45 rfl rfl), (zat_0 30 rfl rfl), (zat_1 10 rfl rfl), (zat_7 46 rfl rfl), (zyok_of (s := RX12) rfl zcm_12 zpd_2), by decide⟩
theorem zg4_13_13 : zP54e [221, 2, 9, 1706, 52, 110, 1707] := ⟨z_m221, zca_221, rfl, rfl, rfl, (zat_7 166 rfl rfl), (zat_0 52 rfl rfl), (zat_1 10 rfl rfl), (zat_7 167 rfl rfl), (zyok_of (s := RX12) rfl zcm_12 zpd_5), by decide⟩
theorem zg4_13_14 : zP54e [222, 0, 9, 1720, 55, 110, 1721] := ⟨z_m222, zca_222, rfl, rfl, rfl, (zat_7 180 rfl rfl), (zat_0 55 rfl rfl), (zat_1 10 rfl rfl), (zat_7 181 rfl rfl), (zyok_of (s := RX12) rfl zcm_12 zpd_2), by decide⟩
theorem zg4_13_15 : zP54e [223, 0, 9, 1716, 54, 110, 1717] := ⟨z_m223, zca_223, rfl, rfl, rfl, (zat_7 176 rfl rfl), (zat_0 54 rfl rfl), (zat_1 10 rfl rfl), (zat_7 177 rfl rfl), (zyok_of (s := RX12) rfl zcm_12 zpd_2), by decide⟩
noncomputable def zg4L_13 : List (List Nat) := [[208, 3, 9, 1605, 34, 110, 1606], [209, 0, 9, 1552, 1553, 110, 1554], [210, 0, 9, 1565, 25, 110, 1566], [211, 3, 9, 1675, 46, 110, 1676], [212, 0, 9, 1620, 37, 110, 1621], [213, 2, 9, 1632, 38, 110, 1633], [214, 0, 9, 1596, 32, 110, 1597], [215, 0, 9, 1647, 41, 110, 1648], [216, 0, 9, 1643, 40, 110, 1644], [217, 0, 9, 1652, 42, 110, 1653], [218, 0, 9, 1670, 45, 110, 1671], [219, 0, 9, 1657, 43, 110, 1658], [220, 0, 9, 1585, 30, 110, 1586], [221, 2, 9, 1706, 52, 110, 1707], [222, 0, 9, 1720, 55, 110, 1721], [223, 0, 9, 1716, 54, 110, 1717]]
theorem zg4A_13 : ∀ e ∈ zg4L_13, zP54e e := List.forall_mem_cons.mpr ⟨zg4_13_0, List.forall_mem_cons.mpr ⟨zg4_13_1, List.forall_mem_cons.mpr ⟨zg4_13_2, List.forall_mem_cons.mpr ⟨zg4_13_3, List.forall_mem_cons.mpr ⟨zg4_13_4, List.forall_mem_cons.mpr ⟨zg4_13_5, List.forall_mem_cons.mpr ⟨zg4_13_6, List.forall_mem_cons.mpr ⟨zg4_13_7, List.forall_mem_cons.mpr ⟨zg4_13_8, List.forall_mem_cons.mpr ⟨zg4_13_9, List.forall_mem_cons.mpr ⟨zg4_13_10, List.forall_mem_cons.mpr ⟨zg4_13_11, List.forall_mem_cons.mpr ⟨zg4_13_12, List.forall_mem_cons.mpr ⟨zg4_13_13, List.forall_mem_cons.mpr ⟨zg4_13_14, List.forall_mem_cons.mpr ⟨zg4_13_15, fun _ h => absurd h List.not_mem_nil⟩⟩⟩⟩⟩⟩⟩⟩⟩⟩⟩⟩⟩⟩⟩⟩
theorem zg4_14_0 : zP54e [224, 0, 9, 1710, 53, 110, 1711] := ⟨z_m224, zca_224, rfl, rfl, rfl, (zat_7 170 rfl rfl), (zat_0 53 rfl rfl), (zat_1 10 rfl rfl), (zat_7 171 rfl rfl), (zyok_of (s := RX12) rfl zcm_12 zpd_2), by decide⟩
theorem zg4_14_1 : zP54e [225, 0, 9, 1697, 50, 110, 1698] := ⟨z_m225, zca_225, rfl, rfl, rfl, (zat_7 157 rfl rfl), (zat_0 50 rfl rfl), (zat_1 10 rfl rfl), (zat_7 158 rfl rfl), (zyok_of (s := RX12) rfl zcm_12 zpd_2), by decide⟩
theorem zg4_14_2 : zP54e [226, 0, 9, 1693, 49, 110, 1694] := ⟨z_m226, zca_226, rfl, rfl, rfl, (zat_7 153 rfl rfl), (zat_0 49 rfl rfl), (zat_1 10 rfl rfl), (zat_7 154 rfl rfl), (zyok_of (s := RX12) rfl zcm_12 zpd_2), by decide⟩
theorem zg4_14_3 : zP54e [227, 0, 9, 1689, 48, 110, 1690] := ⟨z_m227, zca_227, rfl, rfl, rfl, (zat_7 149 rfl rfl), (zat_0 48 rfl rfl), (zat_1 10 rfl rfl), (zat_7 150 rfl rfl), (zyok_of (s := RX12) rfl zcm_12 zpd_2), by decide⟩
theorem zg4_14_4 : zP54e [228, 1, 9, 1683, 47, 110, 1684] := ⟨z_m228, zca_228, rfl, rfl, rfl, (zat_7 143 rfl rfl), (zat_0 47 rfl rfl), (zat_1 10 rfl rfl), (zat_7 144 rfl rfl), (zyok_of (s := RX12) rfl zcm_12 zpd_1), by decide⟩
theorem zg4_14_5 : zP54e [229, 2, 9, 1577, 28, 110, 1578] := ⟨z_m229, zca_229, rfl, rfl, rfl, (zat_7 37 rfl rfl), (zat_0 28 rfl rfl), (zat_1 10 rfl rfl), (zat_7 38 rfl rfl), (zyok_of (s := RX12) rfl zcm_12 zpd_32), by decide⟩
theorem zg4_14_6 : zP54e [230, 1, 9, 1561, 24, 110, 1562] := ⟨z_m230, zca_230, rfl, rfl, rfl, (zat_7 21 rfl rfl), (zat_0 24 rfl rfl), (zat_1 10 rfl rfl), (zat_7 22 rfl rfl), (zyok_of (s := RX12) rfl zcm_12 zpd_10), by decide⟩
theorem zg4_14_7 : zP54e [231, 0, 9, 1556, 1557, 110, 1558] := ⟨z_m231, zca_231, rfl, rfl, rfl, (zat_7 16 rfl rfl), (zat_7 17 rfl rfl), (zat_1 10 rfl rfl), (zat_7 18 rfl rfl), (zyok_of (s := RX12) rfl zcm_12 zpd_3), by decide⟩
theorem zg4_14_8 : zP54e [232, 0, 9, 1732, 1733, 110, 1734] := ⟨z_m232, zca_232, rfl, rfl, rfl, (zat_7 192 rfl rfl), (zat_7 193 rfl rfl), (zat_1 10 rfl rfl), (zat_7 194 rfl rfl), (zyok_of (s := RX12) rfl zcm_12 zpd_3), by decide⟩
theorem zg4_14_9 : zP54e [233, 0, 9, 1804, 68, 110, 1805] := ⟨z_m233, zca_233, rfl, rfl, rfl, (zat_8 24 rfl rfl), (zat_0 68 rfl rfl), (zat_1 10 rfl rfl), (zat_8 25 rfl rfl), (zyok_of (s := RX12) rfl zcm_12 zpd_3), by decide⟩
theorem zg4_14_10 : zP54e [234, 1, 9, 1816, 71, 110, 1817] := ⟨z_m234, zca_234, rfl, rfl, rfl, (zat_8 36 rfl rfl), (zat_0 71 rfl rfl), (zat_1 10 rfl rfl), (zat_8 37 rfl rfl), (zyok_of (s := RX12) rfl zcm_12 zpd_7), by decide⟩
theorem zg4_14_11 : zP54e [236, 4, 9, 1800, 67, 110, 1801] := ⟨z_m236, zca_236, rfl, rfl, rfl, (zat_8 20 rfl rfl), (zat_0 67 rfl rfl), (zat_1 10 rfl rfl), (zat_8 21 rfl rfl), (zyok_of (s := RX12) rfl zcm_12 zpd_35), by decide⟩
theorem zg4_14_12 : zP54e [237, 3, 9, 1796, 66, 110, 1797] := ⟨z_m237, zca_237, rfl, rfl, rfl, (zat_8 16 rfl rfl), (zat_0 66 rfl rfl), (zat_1 10 rfl rfl), (zat_8 17 rfl rfl), (zyok_of (s := RX12) rfl zcm_12 zpd_34), by decide⟩
theorem zg4_14_13 : zP54e [238, 3, 9, 1792, 65, 110, 1793] := ⟨z_m238, zca_238, rfl, rfl, rfl, (zat_8 12 rfl rfl), (zat_0 65 rfl rfl), (zat_1 10 rfl rfl), (zat_8 13 rfl rfl), (zyok_of (s := RX12) rfl zcm_12 zpd_4), by decide⟩
theorem zg4_14_14 : zP54e [239, 2, 9, 1788, 64, 110, 1789] := ⟨z_m239, zca_239, rfl, rfl, rfl, (zat_8 8 rfl rfl), (zat_0 64 rfl rfl), (zat_1 10 rfl rfl), (zat_8 9 rfl rfl), (zyok_of (s := RX12) rfl zcm_12 zpd_9), by decide⟩
noncomputable def zg4L_14 : List (List Nat) := [[224, 0, 9, 1710, 53, 110, 1711], [225, 0, 9, 1697, 50, 110, 1698], [226, 0, 9, 1693, 49, 110, 1694], [227, 0, 9, 1689, 48, 110, 1690], [228, 1, 9, 1683, 47, 110, 1684], [229, 2, 9, 1577, 28, 110, 1578], [230, 1, 9, 1561, 24, 110, 1562], [231, 0, 9, 1556, 1557, 110, 1558], [232, 0, 9, 1732, 1733, 110, 1734], [233, 0, 9, 1804, 68, 110, 1805], [234, 1, 9, 1816, 71, 110, 1817], [236, 4, 9, 1800, 67, 110, 1801], [237, 3, 9, 1796, 66, 110, 1797], [238, 3, 9, 1792, 65, 110, 1793], [239, 2, 9, 1788, 64, 110, 1789]]
theorem zg4A_14 : ∀ e ∈ zg4L_14, zP54e e := List.forall_mem_cons.mpr ⟨zg4_14_0, List.forall_mem_cons.mpr ⟨zg4_14_1, List.forall_mem_cons.mpr ⟨zg4_14_2, List.forall_mem_cons.mpr ⟨zg4_14_3, List.forall_mem_cons.mpr ⟨zg4_14_4, List.forall_mem_cons.mpr ⟨zg4_14_5, List.forall_mem_cons.mpr ⟨zg4_14_6, List.forall_mem_cons.mpr ⟨zg4_14_7, List.forall_mem_cons.mpr ⟨zg4_14_8, List.forall_mem_cons.mpr ⟨zg4_14_9, List.forall_mem_cons.mpr ⟨zg4_14_10, List.forall_mem_cons.mpr ⟨zg4_14_11, List.forall_mem_cons.mpr ⟨zg4_14_12, List.forall_mem_cons.mpr ⟨zg4_14_13, List.forall_mem_cons.mpr ⟨zg4_14_14, fun _ h => absurd h List.not_mem_nil⟩⟩⟩⟩⟩⟩⟩⟩⟩⟩⟩⟩⟩⟩⟩
theorem zg4_15_0 : zP54e [240, 2, 9, 1827, 73, 110, 1828] := ⟨z_m240, zca_240, rfl, rfl, rfl, (zat_8 47 rfl rfl), (zat_0 73 rfl rfl), (zat_1 10 rfl rfl), (zat_8 48 rfl rfl), (zyok_of (s := RX12) rfl zcm_12 zpd_9), by decide⟩
theorem zg4_15_1 : zP54e [241, 1, 9, 1839, 75, 110, 1840] := ⟨z_m241, zca_241, rfl, rfl, rfl, (zat_8 59 rfl rfl), (zat_0 75 rfl rfl), (zat_1 10 rfl rfl), (zat_8 60 rfl rfl), (zyok_of (s := RX12) rfl zcm_12 zpd_7), by decide⟩
theorem zg4_15_2 : zP54e [242, 1, 9, 1755, 58, 110, 1756] := ⟨z_m242, zca_242, rfl, rfl, rfl, (zat_7 215 rfl rfl), (zat_0 58 rfl rfl), (zat_1 10 rfl rfl), (zat_7 216 rfl rfl), (zyok_of (s := RX12) rfl zcm_12 zpd_7), by decide⟩
theorem zg4_15_3 : zP54e [243, 1, 9, 1759, 59, 110, 1760] := ⟨z_m243, zca_243, rfl, rfl, rfl, (zat_7 219 rfl rfl), (zat_0 59 rfl rfl), (zat_1 10 rfl rfl), (zat_7 220 rfl rfl), (zyok_of (s := RX12) rfl zcm_12 zpd_7), by decide⟩
theorem zg4_15_4 : zP54e [244, 1, 9, 1772, 61, 110, 1773] := ⟨z_m244, zca_244, rfl, rfl, rfl, (zat_7 232 rfl rfl), (zat_0 61 rfl rfl), (zat_1 10 rfl rfl), (zat_7 233 rfl rfl), (zyok_of (s := RX12) rfl zcm_12 zpd_7), by decide⟩
theorem zg4_15_5 : zP54e [246, 1, 9, 1764, 60, 110, 1765] := ⟨z_m246, zca_246, rfl, rfl, rfl, (zat_7 224 rfl rfl), (zat_0 60 rfl rfl), (zat_1 10 rfl rfl), (zat_7 225 rfl rfl), (zyok_of (s := RX12) rfl zcm_12 zpd_7), by decide⟩
theorem zg4_15_6 : zP54e [247, 1, 9, 1780, 63, 110, 1781] := ⟨z_m247, zca_247, rfl, rfl, rfl, (zat_8 0 rfl rfl), (zat_0 63 rfl rfl), (zat_1 10 rfl rfl), (zat_8 1 rfl rfl), (zyok_of (s := RX12) rfl zcm_12 zpd_7), by decide⟩
theorem zg4_15_7 : zP54e [248, 1, 9, 1736, 1737, 110, 1738] := ⟨z_m248, zca_248, rfl, rfl, rfl, (zat_7 196 rfl rfl), (zat_7 197 rfl rfl), (zat_1 10 rfl rfl), (zat_7 198 rfl rfl), (zyok_of (s := RX12) rfl zcm_12 zpd_7), by decide⟩
theorem zg4_15_8 : zP54e [249, 2, 9, 1746, 1747, 110, 1748] := ⟨z_m249, zca_249, rfl, rfl, rfl, (zat_7 206 rfl rfl), (zat_7 207 rfl rfl), (zat_1 10 rfl rfl), (zat_7 208 rfl rfl), (zyok_of (s := RX12) rfl zcm_12 zpd_9), by decide⟩
theorem zg4_15_9 : zP54e [250, 3, 9, 1783, 1784, 110, 1785] := ⟨z_m250, zca_250, rfl, rfl, rfl, (zat_8 3 rfl rfl), (zat_8 4 rfl rfl), (zat_1 10 rfl rfl), (zat_8 5 rfl rfl), (zyok_of (s := RX12) rfl zcm_12 zpd_4), by decide⟩
theorem zg4_15_10 : zP54e [251, 2, 9, 1830, 1831, 110, 1832] := ⟨z_m251, zca_251, rfl, rfl, rfl, (zat_8 50 rfl rfl), (zat_8 51 rfl rfl), (zat_1 10 rfl rfl), (zat_8 52 rfl rfl), (zyok_of (s := RX12) rfl zcm_12 zpd_9), by decide⟩
theorem zg4_15_11 : zP54e [252, 2, 9, 1842, 1843, 110, 1844] := ⟨z_m252, zca_252, rfl, rfl, rfl, (zat_8 62 rfl rfl), (zat_8 63 rfl rfl), (zat_1 10 rfl rfl), (zat_8 64 rfl rfl), (zyok_of (s := RX12) rfl zcm_12 zpd_9), by decide⟩
theorem zg4_15_12 : zP54e [253, 2, 9, 1851, 1852, 110, 1853] := ⟨z_m253, zca_253, rfl, rfl, rfl, (zat_8 71 rfl rfl), (zat_8 72 rfl rfl), (zat_1 10 rfl rfl), (zat_8 73 rfl rfl), (zyok_of (s := RX12) rfl zcm_12 zpd_9), by decide⟩
theorem zg4_15_13 : zP54e [254, 2, 9, 1860, 77, 110, 1861] := ⟨z_m254, zca_254, rfl, rfl, rfl, (zat_8 80 rfl rfl), (zat_0 77 rfl rfl), (zat_1 10 rfl rfl), (zat_8 81 rfl rfl), (zyok_of (s := RX12) rfl zcm_12 zpd_5), by decide⟩
theorem zg4_15_14 : zP54e [255, 2, 9, 1855, 1856, 110, 1857] := ⟨z_m255, zca_255, rfl, rfl, rfl, (zat_8 75 rfl rfl), (zat_8 76 rfl rfl), (zat_1 10 rfl rfl), (zat_8 77 rfl rfl), (zyok_of (s := RX12) rfl zcm_12 zpd_9), by decide⟩
noncomputable def zg4L_15 : List (List Nat) := [[240, 2, 9, 1827, 73, 110, 1828], [241, 1, 9, 1839, 75, 110, 1840], [242, 1, 9, 1755, 58, 110, 1756], [243, 1, 9, 1759, 59, 110, 1760], [244, 1, 9, 1772, 61, 110, 1773], [246, 1, 9, 1764, 60, 110, 1765], [247, 1, 9, 1780, 63, 110, 1781], [248, 1, 9, 1736, 1737, 110, 1738], [249, 2, 9, 1746, 1747, 110, 1748], [250, 3, 9, 1783, 1784, 110, 1785], [251, 2, 9, 1830, 1831, 110, 1832], [252, 2, 9, 1842, 1843, 110, 1844], [253, 2, 9, 1851, 1852, 110, 1853], [254, 2, 9, 1860, 77, 110, 1861], [255, 2, 9, 1855, 1856, 110, 1857]]
theorem zg4A_15 : ∀ e ∈ zg4L_15, zP54e e := List.forall_mem_cons.mpr ⟨zg4_15_0, List.forall_mem_cons.mpr ⟨zg4_15_1, List.forall_mem_cons.mpr ⟨zg4_15_2, List.forall_mem_cons.mpr ⟨zg4_15_3, List.forall_mem_cons.mpr ⟨zg4_15_4, List.forall_mem_cons.mpr ⟨zg4_15_5, List.forall_mem_cons.mpr ⟨zg4_15_6, List.forall_mem_cons.mpr ⟨zg4_15_7, List.forall_mem_cons.mpr ⟨zg4_15_8, List.forall_mem_cons.mpr ⟨zg4_15_9, List.forall_mem_cons.mpr ⟨zg4_15_10, List.forall_mem_cons.mpr ⟨zg4_15_11, List.forall_mem_cons.mpr ⟨zg4_15_12, List.forall_mem_cons.mpr ⟨zg4_15_13, List.forall_mem_cons.mpr ⟨zg4_15_14, fun _ h => absurd h List.not_mem_nil⟩⟩⟩⟩⟩⟩⟩⟩⟩⟩⟩⟩⟩⟩⟩
theorem zg4_16_0 : zP54e [256, 1, 9, 1863, 1864, 110, 1865] := ⟨z_m256, zca_256, rfl, rfl, rfl, (zat_8 83 rfl rfl), (zat_8 84 rfl rfl), (zat_1 10 rfl rfl), (zat_8 85 rfl rfl), (zyok_of (s := RX12) rfl zcm_12 zpd_7), by decide⟩
theorem zg4_16_1 : zP54e [257, 2, 9, 1876, 79, 110, 1877] := ⟨z_m257, zca_257, rfl, rfl, rfl, (zat_8 96 rfl rfl), (zat_0 79 rfl rfl), (zat_1 10 rfl rfl), (zat_8 97 rfl rfl), (zyok_of (s := RX12) rfl zcm_12 zpd_9), by decide⟩
theorem zg4_16_2 : zP54e [258, 1, 9, 1867, 1868, 110, 1869] := ⟨z_m258, zca_258, rfl, rfl, rfl, (zat_8 87 rfl rfl), (zat_8 88 rfl rfl), (zat_1 10 rfl rfl), (zat_8 89 rfl rfl), (zyok_of (s := RX12) rfl zcm_12 zpd_7), by decide⟩
theorem zg4_16_3 : zP54e [259, 1, 9, 1879, 1880, 110, 1881] := ⟨z_m259, zca_259, rfl, rfl, rfl, (zat_8 99 rfl rfl), (zat_8 100 rfl rfl), (zat_1 10 rfl rfl), (zat_8 101 rfl rfl), (zyok_of (s := RX12) rfl zcm_12 zpd_7), by decide⟩
theorem zg4_16_4 : zP54e [260, 0, 9, 1883, 1884, 110, 1885] := ⟨z_m260, zca_260, rfl, rfl, rfl, (zat_8 103 rfl rfl), (zat_8 104 rfl rfl), (zat_1 10 rfl rfl), (zat_8 105 rfl rfl), (zyok_of (s := RX12) rfl zcm_12 zpd_3), by decide⟩
theorem zg4_16_5 : zP54e [261, 0, 9, 1887, 1888, 110, 1889] := ⟨z_m261, zca_261, rfl, rfl, rfl, (zat_8 107 rfl rfl), (zat_8 108 rfl rfl), (zat_1 10 rfl rfl), (zat_8 109 rfl rfl), (zyok_of (s := RX12) rfl zcm_12 zpd_3), by decide⟩
theorem zg4_16_6 : zP54e [262, 3, 9, 1913, 84, 110, 1914] := ⟨z_m262, zca_262, rfl, rfl, rfl, (zat_8 133 rfl rfl), (zat_0 84 rfl rfl), (zat_1 10 rfl rfl), (zat_8 134 rfl rfl), (zyok_of (s := RX12) rfl zcm_12 zpd_30), by decide⟩
theorem zg4_16_7 : zP54e [263, 1, 9, 1904, 82, 110, 1905] := ⟨z_m263, zca_263, rfl, rfl, rfl, (zat_8 124 rfl rfl), (zat_0 82 rfl rfl), (zat_1 10 rfl rfl), (zat_8 125 rfl rfl), (zyok_of (s := RX12) rfl zcm_12 zpd_11), by decide⟩
theorem zg4_16_8 : zP54e [264, 1, 9, 1917, 85, 110, 1918] := ⟨z_m264, zca_264, rfl, rfl, rfl, (zat_8 137 rfl rfl), (zat_0 85 rfl rfl), (zat_1 10 rfl rfl), (zat_8 138 rfl rfl), (zyok_of (s := RX12) rfl zcm_12 zpd_7), by decide⟩
theorem zg4_16_9 : zP54e [265, 1, 9, 1900, 81, 110, 1901] := ⟨z_m265, zca_265, rfl, rfl, rfl, (zat_8 120 rfl rfl), (zat_0 81 rfl rfl), (zat_1 10 rfl rfl), (zat_8 121 rfl rfl), (zyok_of (s := RX12) rfl zcm_12 zpd_10), by decide⟩
theorem zg4_16_10 : zP54e [266, 0, 9, 1925, 86, 110, 1926] := ⟨z_m266, zca_266, rfl, rfl, rfl, (zat_8 145 rfl rfl), (zat_0 86 rfl rfl), (zat_1 10 rfl rfl), (zat_8 146 rfl rfl), (zyok_of (s := RX12) rfl zcm_12 zpd_12), by decide⟩
theorem zg4_16_11 : zP54e [267, 0, 9, 1929, 87, 110, 1930] := ⟨z_m267, zca_267, rfl, rfl, rfl, (zat_8 149 rfl rfl), (zat_0 87 rfl rfl), (zat_1 10 rfl rfl), (zat_8 150 rfl rfl), (zyok_of (s := RX12) rfl zcm_12 zpd_12), by decide⟩
theorem zg4_16_12 : zP54e [268, 2, 9, 1896, 80, 110, 1897] := ⟨z_m268, zca_268, rfl, rfl, rfl, (zat_8 116 rfl rfl), (zat_0 80 rfl rfl), (zat_1 10 rfl rfl), (zat_8 117 rfl rfl), (zyok_of (s := RX12) rfl zcm_12 zpd_29), by decide⟩
theorem zg4_16_13 : zP54e [269, 1, 9, 1891, 1892, 110, 1893] := ⟨z_m269, zca_269, rfl, rfl, rfl, (zat_8 111 rfl rfl), (zat_8 112 rfl rfl), (zat_1 10 rfl rfl), (zat_8 113 rfl rfl), (zyok_of (s := RX12) rfl zcm_12 zpd_7), by decide⟩
theorem zg4_16_14 : zP54e [270, 2, 9, 1920, 1921, 110, 1922] := ⟨z_m270, zca_270, rfl, rfl, rfl, (zat_8 140 rfl rfl), (zat_8 141 rfl rfl), (zat_1 10 rfl rfl), (zat_8 142 rfl rfl), (zyok_of (s := RX12) rfl zcm_12 zpd_9), by decide⟩
theorem zg4_16_15 : zP54e [271, 1, 9, 1932, 1933, 110, 1934] := ⟨z_m271, zca_271, rfl, rfl, rfl, (zat_8 152 rfl rfl), (zat_8 153 rfl rfl), (zat_1 10 rfl rfl), (zat_8 154 rfl rfl), (zyok_of (s := RX12) rfl zcm_12 zpd_7), by decide⟩
noncomputable def zg4L_16 : List (List Nat) := [[256, 1, 9, 1863, 1864, 110, 1865], [257, 2, 9, 1876, 79, 110, 1877], [258, 1, 9, 1867, 1868, 110, 1869], [259, 1, 9, 1879, 1880, 110, 1881], [260, 0, 9, 1883, 1884, 110, 1885], [261, 0, 9, 1887, 1888, 110, 1889], [262, 3, 9, 1913, 84, 110, 1914], [263, 1, 9, 1904, 82, 110, 1905], [264, 1, 9, 1917, 85, 110, 1918], [265, 1, 9, 1900, 81, 110, 1901], [266, 0, 9, 1925, 86, 110, 1926], [267, 0, 9, 1929, 87, 110, 1930], [268, 2, 9, 1896, 80, 110, 1897], [269, 1, 9, 1891, 1892, 110, 1893], [270, 2, 9, 1920, 1921, 110, 1922], [271, 1, 9, 1932, 1933, 110, 1934]]
theorem zg4A_16 : ∀ e ∈ zg4L_16, zP54e e := List.forall_mem_cons.mpr ⟨zg4_16_0, List.forall_mem_cons.mpr ⟨zg4_16_1, List.forall_mem_cons.mpr ⟨zg4_16_2, List.forall_mem_cons.mpr ⟨zg4_16_3, List.forall_mem_cons.mpr ⟨zg4_16_4, List.forall_mem_cons.mpr ⟨zg4_16_5, List.forall_mem_cons.mpr ⟨zg4_16_6, List.forall_mem_cons.mpr ⟨zg4_16_7, List.forall_mem_cons.mpr ⟨zg4_16_8, List.forall_mem_cons.mpr ⟨zg4_16_9, List.forall_mem_cons.mpr ⟨zg4_16_10, List.forall_mem_cons.mpr ⟨zg4_16_11, List.forall_mem_cons.mpr ⟨zg4_16_12, List.forall_mem_cons.mpr ⟨zg4_16_13, List.forall_mem_cons.mpr ⟨zg4_16_14, List.forall_mem_cons.mpr ⟨zg4_16_15, fun _ h => absurd h List.not_mem_nil⟩⟩⟩⟩⟩⟩⟩⟩⟩⟩⟩⟩⟩⟩⟩⟩
theorem zg4_17_0 : zP54e [272, 1, 9, 1936, 1937, 110, 1938] := ⟨z_m272, zca_272, rfl, rfl, rfl, (zat_8 156 rfl rfl), (zat_8 157 rfl rfl), (zat_1 10 rfl rfl), (zat_8 158 rfl rfl), (zyok_of (s := RX12) rfl zcm_12 zpd_7), by decide⟩
theorem zg4_17_1 : zP54e [273, 1, 9, 1940, 1941, 110, 1942] := ⟨z_m273, zca_273, rfl, rfl, rfl, (zat_8 160 rfl rfl), (zat_8 161 rfl rfl), (zat_1 10 rfl rfl), (zat_8 162 rfl rfl), (zyok_of (s := RX12) rfl zcm_12 zpd_7), by decide⟩
theorem zg4_17_2 : zP54e [274, 0, 9, 1944, 1945, 110, 1946] := ⟨z_m274, zca_274, rfl, rfl, rfl, (zat_8 164 rfl rfl), (zat_8 165 rfl rfl), (zat_1 10 rfl rfl), (zat_8 166 rfl rfl), (zyok_of (s := RX12) rfl zcm_12 zpd_3), by decide⟩
theorem zg4_17_3 : zP54e [275, 3, 9, 1957, 89, 110, 1958] := ⟨z_m275, zca_275, rfl, rfl, rfl, (zat_8 177 rfl rfl), (zat_0 89 rfl rfl), (zat_1 10 rfl rfl), (zat_8 178 rfl rfl), (zyok_of (s := RX12) rfl zcm_12 zpd_34), by decide⟩
theorem zg4_17_4 : zP54e [276, 2, 9, 1953, 88, 110, 1954] := ⟨z_m276, zca_276, rfl, rfl, rfl, (zat_8 173 rfl rfl), (zat_0 88 rfl rfl), (zat_1 10 rfl rfl), (zat_8 174 rfl rfl), (zyok_of (s := RX12) rfl zcm_12 zpd_9), by decide⟩
theorem zg4_17_5 : zP54e [277, 2, 9, 1948, 1949, 110, 1950] := ⟨z_m277, zca_277, rfl, rfl, rfl, (zat_8 168 rfl rfl), (zat_8 169 rfl rfl), (zat_1 10 rfl rfl), (zat_8 170 rfl rfl), (zyok_of (s := RX12) rfl zcm_12 zpd_9), by decide⟩
theorem zg4_17_6 : zP54e [278, 0, 9, 1960, 1961, 110, 1962] := ⟨z_m278, zca_278, rfl, rfl, rfl, (zat_8 180 rfl rfl), (zat_8 181 rfl rfl), (zat_1 10 rfl rfl), (zat_8 182 rfl rfl), (zyok_of (s := RX12) rfl zcm_12 zpd_3), by decide⟩
theorem zg4_17_7 : zP54e [279, 0, 9, 1964, 1965, 110, 1966] := ⟨z_m279, zca_279, rfl, rfl, rfl, (zat_8 184 rfl rfl), (zat_8 185 rfl rfl), (zat_1 10 rfl rfl), (zat_8 186 rfl rfl), (zyok_of (s := RX12) rfl zcm_12 zpd_3), by decide⟩
theorem zg4_17_8 : zP54e [280, 0, 9, 1968, 1969, 110, 1970] := ⟨z_m280, zca_280, rfl, rfl, rfl, (zat_8 188 rfl rfl), (zat_8 189 rfl rfl), (zat_1 10 rfl rfl), (zat_8 190 rfl rfl), (zyok_of (s := RX12) rfl zcm_12 zpd_3), by decide⟩
theorem zg4_17_9 : zP54e [281, 0, 9, 1972, 1973, 110, 1974] := ⟨z_m281, zca_281, rfl, rfl, rfl, (zat_8 192 rfl rfl), (zat_8 193 rfl rfl), (zat_1 10 rfl rfl), (zat_8 194 rfl rfl), (zyok_of (s := RX12) rfl zcm_12 zpd_3), by decide⟩
theorem zg4_17_10 : zP54e [283, 1, 9, 1976, 1977, 110, 1978] := ⟨z_m283, zca_283, rfl, rfl, rfl, (zat_8 196 rfl rfl), (zat_8 197 rfl rfl), (zat_1 10 rfl rfl), (zat_8 198 rfl rfl), (zyok_of (s := RX12) rfl zcm_12 zpd_7), by decide⟩
theorem zg4_17_11 : zP54e [284, 1, 9, 1984, 1985, 110, 1986] := ⟨z_m284, zca_284, rfl, rfl, rfl, (zat_8 204 rfl rfl), (zat_8 205 rfl rfl), (zat_1 10 rfl rfl), (zat_8 206 rfl rfl), (zyok_of (s := RX12) rfl zcm_12 zpd_7), by decide⟩
theorem zg4_17_12 : zP54e [285, 2, 9, 2001, 92, 110, 2002] := ⟨z_m285, zca_285, rfl, rfl, rfl, (zat_8 221 rfl rfl), (zat_0 92 rfl rfl), (zat_1 10 rfl rfl), (zat_8 222 rfl rfl), (zyok_of (s := RX12) rfl zcm_12 zpd_9), by decide⟩
theorem zg4_17_13 : zP54e [286, 1, 9, 1997, 91, 110, 1998] := ⟨z_m286, zca_286, rfl, rfl, rfl, (zat_8 217 rfl rfl), (zat_0 91 rfl rfl), (zat_1 10 rfl rfl), (zat_8 218 rfl rfl), (zyok_of (s := RX12) rfl zcm_12 zpd_7), by decide⟩
theorem zg4_17_14 : zP54e [287, 1, 9, 1993, 90, 110, 1994] := ⟨z_m287, zca_287, rfl, rfl, rfl, (zat_8 213 rfl rfl), (zat_0 90 rfl rfl), (zat_1 10 rfl rfl), (zat_8 214 rfl rfl), (zyok_of (s := RX12) rfl zcm_12 zpd_1), by decide⟩
noncomputable def zg4L_17 : List (List Nat) := [[272, 1, 9, 1936, 1937, 110, 1938], [273, 1, 9, 1940, 1941, 110, 1942], [274, 0, 9, 1944, 1945, 110, 1946], [275, 3, 9, 1957, 89, 110, 1958], [276, 2, 9, 1953, 88, 110, 1954], [277, 2, 9, 1948, 1949, 110, 1950], [278, 0, 9, 1960, 1961, 110, 1962], [279, 0, 9, 1964, 1965, 110, 1966], [280, 0, 9, 1968, 1969, 110, 1970], [281, 0, 9, 1972, 1973, 110, 1974], [283, 1, 9, 1976, 1977, 110, 1978], [284, 1, 9, 1984, 1985, 110, 1986], [285, 2, 9, 2001, 92, 110, 2002], [286, 1, 9, 1997, 91, 110, 1998], [287, 1, 9, 1993, 90, 110, 1994]]
theorem zg4A_17 : ∀ e ∈ zg4L_17, zP54e e := List.forall_mem_cons.mpr ⟨zg4_17_0, List.forall_mem_cons.mpr ⟨zg4_17_1, List.forall_mem_cons.mpr ⟨zg4_17_2, List.forall_mem_cons.mpr ⟨zg4_17_3, List.forall_mem_cons.mpr ⟨zg4_17_4, List.forall_mem_cons.mpr ⟨zg4_17_5, List.forall_mem_cons.mpr ⟨zg4_17_6, List.forall_mem_cons.mpr ⟨zg4_17_7, List.forall_mem_cons.mpr ⟨zg4_17_8, List.forall_mem_cons.mpr ⟨zg4_17_9, List.forall_mem_cons.mpr ⟨zg4_17_10, List.forall_mem_cons.mpr ⟨zg4_17_11, List.forall_mem_cons.mpr ⟨zg4_17_12, List.forall_mem_cons.mpr ⟨zg4_17_13, List.forall_mem_cons.mpr ⟨zg4_17_14, fun _ h => absurd h List.not_mem_nil⟩⟩⟩⟩⟩⟩⟩⟩⟩⟩⟩⟩⟩⟩⟩
theorem zg4_18_0 : zP54e [288, 0, 9, 1988, 1989, 110, 1990] := ⟨z_m288, zca_288, rfl, rfl, rfl, (zat_8 208 rfl rfl), (zat_8 209 rfl rfl), (zat_1 10 rfl rfl), (zat_8 210 rfl rfl), (zyok_of (s := RX12) rfl zcm_12 zpd_3), by decide⟩
theorem zg4_18_1 : zP54e [289, 3, 9, 2009, 93, 110, 2010] := ⟨z_m289, zca_289, rfl, rfl, rfl, (zat_8 229 rfl rfl), (zat_0 93 rfl rfl), (zat_1 10 rfl rfl), (zat_8 230 rfl rfl), (zyok_of (s := RX12) rfl zcm_12 zpd_4), by decide⟩
theorem zg4_18_2 : zP54e [290, 0, 9, 2004, 2005, 110, 2006] := ⟨z_m290, zca_290, rfl, rfl, rfl, (zat_8 224 rfl rfl), (zat_8 225 rfl rfl), (zat_1 10 rfl rfl), (zat_8 226 rfl rfl), (zyok_of (s := RX12) rfl zcm_12 zpd_3), by decide⟩
theorem zg4_18_3 : zP54e [291, 1, 9, 2021, 95, 110, 2022] := ⟨z_m291, zca_291, rfl, rfl, rfl, (zat_9 1 rfl rfl), (zat_0 95 rfl rfl), (zat_1 10 rfl rfl), (zat_9 2 rfl rfl), (zyok_of (s := RX12) rfl zcm_12 zpd_7), by decide⟩
theorem zg4_18_4 : zP54e [292, 0, 9, 2017, 94, 110, 2018] := ⟨z_m292, zca_292, rfl, rfl, rfl, (zat_8 237 rfl rfl), (zat_0 94 rfl rfl), (zat_1 10 rfl rfl), (zat_8 238 rfl rfl), (zyok_of (s := RX12) rfl zcm_12 zpd_3), by decide⟩
theorem zg4_18_5 : zP54e [293, 1, 9, 2012, 2013, 110, 2014] := ⟨z_m293, zca_293, rfl, rfl, rfl, (zat_8 232 rfl rfl), (zat_8 233 rfl rfl), (zat_1 10 rfl rfl), (zat_8 234 rfl rfl), (zyok_of (s := RX12) rfl zcm_12 zpd_7), by decide⟩
theorem zg4_18_6 : zP54e [295, 2, 9, 2024, 2025, 110, 2026] := ⟨z_m295, zca_295, rfl, rfl, rfl, (zat_9 4 rfl rfl), (zat_9 5 rfl rfl), (zat_1 10 rfl rfl), (zat_9 6 rfl rfl), (zyok_of (s := RX12) rfl zcm_12 zpd_9), by decide⟩
theorem zg4_18_7 : zP54e [296, 4, 9, 2036, 96, 110, 2037] := ⟨z_m296, zca_296, rfl, rfl, rfl, (zat_9 16 rfl rfl), (zat_0 96 rfl rfl), (zat_1 10 rfl rfl), (zat_9 17 rfl rfl), (zyok_of (s := RX12) rfl zcm_12 zpd_35), by decide⟩
theorem zg4_18_8 : zP54e [297, 3, 9, 2031, 2032, 110, 2033] := ⟨z_m297, zca_297, rfl, rfl, rfl, (zat_9 11 rfl rfl), (zat_9 12 rfl rfl), (zat_1 10 rfl rfl), (zat_9 13 rfl rfl), (zyok_of (s := RX12) rfl zcm_12 zpd_4), by decide⟩
theorem zg4_18_9 : zP54e [298, 1, 9, 2044, 97, 110, 2045] := ⟨z_m298, zca_298, rfl, rfl, rfl, (zat_9 24 rfl rfl), (zat_0 97 rfl rfl), (zat_1 10 rfl rfl), (zat_9 25 rfl rfl), (zyok_of (s := RX12) rfl zcm_12 zpd_7), by decide⟩
theorem zg4_18_10 : zP54e [299, 1, 9, 2039, 2040, 110, 2041] := ⟨z_m299, zca_299, rfl, rfl, rfl, (zat_9 19 rfl rfl), (zat_9 20 rfl rfl), (zat_1 10 rfl rfl), (zat_9 21 rfl rfl), (zyok_of (s := RX12) rfl zcm_12 zpd_10), by decide⟩
theorem zg4_18_11 : zP54e [300, 0, 9, 2047, 2048, 110, 2049] := ⟨z_m300, zca_300, rfl, rfl, rfl, (zat_9 27 rfl rfl), (zat_9 28 rfl rfl), (zat_1 10 rfl rfl), (zat_9 29 rfl rfl), (zyok_of (s := RX12) rfl zcm_12 zpd_3), by decide⟩
theorem zg4_18_12 : zP54e [301, 0, 9, 2051, 2052, 110, 2053] := ⟨z_m301, zca_301, rfl, rfl, rfl, (zat_9 31 rfl rfl), (zat_9 32 rfl rfl), (zat_1 10 rfl rfl), (zat_9 33 rfl rfl), (zyok_of (s := RX12) rfl zcm_12 zpd_3), by decide⟩
theorem zg4_18_13 : zP54e [302, 0, 9, 2055, 2056, 110, 2057] := ⟨z_m302, zca_302, rfl, rfl, rfl, (zat_9 35 rfl rfl), (zat_9 36 rfl rfl), (zat_1 10 rfl rfl), (zat_9 37 rfl rfl), (zyok_of (s := RX12) rfl zcm_12 zpd_3), by decide⟩
theorem zg4_18_14 : zP54e [303, 0, 9, 2064, 98, 110, 2065] := ⟨z_m303, zca_303, rfl, rfl, rfl, (zat_9 44 rfl rfl), (zat_0 98 rfl rfl), (zat_1 10 rfl rfl), (zat_9 45 rfl rfl), (zyok_of (s := RX12) rfl zcm_12 zpd_3), by decide⟩
noncomputable def zg4L_18 : List (List Nat) := [[288, 0, 9, 1988, 1989, 110, 1990], [289, 3, 9, 2009, 93, 110, 2010], [290, 0, 9, 2004, 2005, 110, 2006], [291, 1, 9, 2021, 95, 110, 2022], [292, 0, 9, 2017, 94, 110, 2018], [293, 1, 9, 2012, 2013, 110, 2014], [295, 2, 9, 2024, 2025, 110, 2026], [296, 4, 9, 2036, 96, 110, 2037], [297, 3, 9, 2031, 2032, 110, 2033], [298, 1, 9, 2044, 97, 110, 2045], [299, 1, 9, 2039, 2040, 110, 2041], [300, 0, 9, 2047, 2048, 110, 2049], [301, 0, 9, 2051, 2052, 110, 2053], [302, 0, 9, 2055, 2056, 110, 2057], [303, 0, 9, 2064, 98, 110, 2065]]
theorem zg4A_18 : ∀ e ∈ zg4L_18, zP54e e := List.forall_mem_cons.mpr ⟨zg4_18_0, List.forall_mem_cons.mpr ⟨zg4_18_1, List.forall_mem_cons.mpr ⟨zg4_18_2, List.forall_mem_cons.mpr ⟨zg4_18_3, List.forall_mem_cons.mpr ⟨zg4_18_4, List.forall_mem_cons.mpr ⟨zg4_18_5, List.forall_mem_cons.mpr ⟨zg4_18_6, List.forall_mem_cons.mpr ⟨zg4_18_7, List.forall_mem_cons.mpr ⟨zg4_18_8, List.forall_mem_cons.mpr ⟨zg4_18_9, List.forall_mem_cons.mpr ⟨zg4_18_10, List.forall_mem_cons.mpr ⟨zg4_18_11, List.forall_mem_cons.mpr ⟨zg4_18_12, List.forall_mem_cons.mpr ⟨zg4_18_13, List.forall_mem_cons.mpr ⟨zg4_18_14, fun _ h => absurd h List.not_mem_nil⟩⟩⟩⟩⟩⟩⟩⟩⟩⟩⟩⟩⟩⟩⟩
theorem zg4_19_0 : zP54e [304, 2, 9, 2059, 2060, 110, 2061] := ⟨z_m304, zca_304, rfl, rfl, rfl, (zat_9 39 rfl rfl), (zat_9 40 rfl rfl), (zat_1 10 rfl rfl), (zat_9 41 rfl rfl), (zyok_of (s := RX12) rfl zcm_12 zpd_29), by decide⟩
theorem zg4_19_1 : zP54e [305, 2, 9, 2067, 2068, 110, 2069] := ⟨z_m305, zca_305, rfl, rfl, rfl, (zat_9 47 rfl rfl), (zat_9 48 rfl rfl), (zat_1 10 rfl rfl), (zat_9 49 rfl rfl), (zyok_of (s := RX12) rfl zcm_12 zpd_29), by decide⟩
theorem zg4_19_2 : zP54e [306, 2, 9, 2076, 99, 110, 2077] := ⟨z_m306, zca_306, rfl, rfl, rfl, (zat_9 56 rfl rfl), (zat_0 99 rfl rfl), (zat_1 10 rfl rfl), (zat_9 57 rfl rfl), (zyok_of (s := RX12) rfl zcm_12 zpd_9), by decide⟩
theorem zg4_19_3 : zP54e [307, 2, 9, 2071, 2072, 110, 2073] := ⟨z_m307, zca_307, rfl, rfl, rfl, (zat_9 51 rfl rfl), (zat_9 52 rfl rfl), (zat_1 10 rfl rfl), (zat_9 53 rfl rfl), (zyok_of (s := RX12) rfl zcm_12 zpd_29), by decide⟩
theorem zg4_19_4 : zP54e [308, 2, 9, 2079, 2080, 110, 2081] := ⟨z_m308, zca_308, rfl, rfl, rfl, (zat_9 59 rfl rfl), (zat_9 60 rfl rfl), (zat_1 10 rfl rfl), (zat_9 61 rfl rfl), (zyok_of (s := RX12) rfl zcm_12 zpd_9), by decide⟩
theorem zg4_19_5 : zP54e [309, 1, 9, 2083, 2084, 110, 2085] := ⟨z_m309, zca_309, rfl, rfl, rfl, (zat_9 63 rfl rfl), (zat_9 64 rfl rfl), (zat_1 10 rfl rfl), (zat_9 65 rfl rfl), (zyok_of (s := RX12) rfl zcm_12 zpd_7), by decide⟩
theorem zg4_19_6 : zP54e [310, 1, 9, 2087, 2088, 110, 2089] := ⟨z_m310, zca_310, rfl, rfl, rfl, (zat_9 67 rfl rfl), (zat_9 68 rfl rfl), (zat_1 10 rfl rfl), (zat_9 69 rfl rfl), (zyok_of (s := RX12) rfl zcm_12 zpd_7), by decide⟩
noncomputable def zg4L_19 : List (List Nat) := [[304, 2, 9, 2059, 2060, 110, 2061], [305, 2, 9, 2067, 2068, 110, 2069], [306, 2, 9, 2076, 99, 110, 2077], [307, 2, 9, 2071, 2072, 110, 2073], [308, 2, 9, 2079, 2080, 110, 2081], [309, 1, 9, 2083, 2084, 110, 2085], [310, 1, 9, 2087, 2088, 110, 2089]]
theorem zg4A_19 : ∀ e ∈ zg4L_19, zP54e e := List.forall_mem_cons.mpr ⟨zg4_19_0, List.forall_mem_cons.mpr ⟨zg4_19_1, List.forall_mem_cons.mpr ⟨zg4_19_2, List.forall_mem_cons.mpr ⟨zg4_19_3, List.forall_mem_cons.mpr ⟨zg4_19_4, List.forall_mem_cons.mpr ⟨zg4_19_5, List.forall_mem_cons.mpr ⟨zg4_19_6, fun _ h => absurd h List.not_mem_nil⟩⟩⟩⟩⟩⟩⟩
noncomputable def zg4L_20 : List (List Nat) := []
theorem zg4A_20 : ∀ e ∈ zg4L_20, zP54e e := fun _ h => absurd h List.not_mem_nil
theorem zg4_21_0 : zP54e [344, 0, 9, 1452, 1453, 110, 1454] := ⟨z_m344, zca_344, rfl, rfl, rfl, (zat_6 152 rfl rfl), (zat_6 153 rfl rfl), (zat_1 10 rfl rfl), (zat_6 154 rfl rfl), (zyok_of (s := RX12) rfl zcm_12 zpd_3), by decide⟩
noncomputable def zg4L_21 : List (List Nat) := [[344, 0, 9, 1452, 1453, 110, 1454]]
theorem zg4A_21 : ∀ e ∈ zg4L_21, zP54e e := List.forall_mem_cons.mpr ⟨zg4_21_0, fun _ h => absurd h List.not_mem_nil⟩
noncomputable def zg4G : List (List (List Nat)) := [zg4L_0, zg4L_1, zg4L_2, zg4L_3, zg4L_4, zg4L_5, zg4L_6, zg4L_7, zg4L_8, zg4L_9, zg4L_10, zg4L_11, zg4L_12, zg4L_13, zg4L_14, zg4L_15, zg4L_16, zg4L_17, zg4L_18, zg4L_19, zg4L_20, zg4L_21]
theorem zg4A : ∀ L ∈ zg4G, ∀ e ∈ L, zP54e e := List.forall_mem_cons.mpr ⟨zg4A_0, List.forall_mem_cons.mpr ⟨zg4A_1, List.forall_mem_cons.mpr ⟨zg4A_2, List.forall_mem_cons.mpr ⟨zg4A_3, List.forall_mem_cons.mpr ⟨zg4A_4, List.forall_mem_cons.mpr ⟨zg4A_5, List.forall_mem_cons.mpr ⟨zg4A_6, List.forall_mem_cons.mpr ⟨zg4A_7, List.forall_mem_cons.mpr ⟨zg4A_8, List.forall_mem_cons.mpr ⟨zg4A_9, List.forall_mem_cons.mpr ⟨zg4A_10, List.forall_mem_cons.mpr ⟨zg4A_11, List.forall_mem_cons.mpr ⟨zg4A_12, List.forall_mem_cons.mpr ⟨zg4A_13, List.forall_mem_cons.mpr ⟨zg4A_14, List.forall_mem_cons.mpr ⟨zg4A_15, List.forall_mem_cons.mpr ⟨zg4A_16, List.forall_mem_cons.mpr ⟨zg4A_17, List.forall_mem_cons.mpr ⟨zg4A_18, List.forall_mem_cons.mpr ⟨zg4A_19, List.forall_mem_cons.mpr ⟨zg4A_20, List.forall_mem_cons.mpr ⟨zg4A_21, fun _ h => absurd h List.not_mem_nil⟩⟩⟩⟩⟩⟩⟩⟩⟩⟩⟩⟩⟩⟩⟩⟩⟩⟩⟩⟩⟩⟩
theorem zg5_0_0 : zP55e [0, 2, 629, 112, 630] := ⟨z_m0, zca_0, rfl, rfl, (zat_3 49 rfl rfl), (zat_1 12 rfl rfl), (zat_3 50 rfl rfl), (zyok_of (s := RX0) rfl zcm_0 zpd_36), by decide⟩
theorem zg5_0_1 : zP55e [1, 2, 644, 112, 645] := ⟨z_m1, zca_1, rfl, rfl, (zat_3 64 rfl rfl), (zat_1 12 rfl rfl), (zat_3 65 rfl rfl), (zyok_of (s := RX0) rfl zcm_0 zpd_37), by decide⟩
theorem zg5_0_2 : zP55e [2, 2, 776, 112, 777] := ⟨z_m2, zca_2, rfl, rfl, (zat_3 196 rfl rfl), (zat_1 12 rfl rfl), (zat_3 197 rfl rfl), (zyok_of (s := RX0) rfl zcm_0 zpd_37), by decide⟩
theorem zg5_0_3 : zP55e [3, 2, 711, 112, 712] := ⟨z_m3, zca_3, rfl, rfl, (zat_3 131 rfl rfl), (zat_1 12 rfl rfl), (zat_3 132 rfl rfl), (zyok_of (s := RX0) rfl zcm_0 zpd_37), by decide⟩
theorem zg5_0_4 : zP55e [4, 2, 758, 112, 759] := ⟨z_m4, zca_4, rfl, rfl, (zat_3 178 rfl rfl), (zat_1 12 rfl rfl), (zat_3 179 rfl rfl), (zyok_of (s := RX0) rfl zcm_0 zpd_37), by decide⟩
theorem zg5_0_5 : zP55e [5, 2, 761, 112, 762] := ⟨z_m5, zca_5, rfl, rfl, (zat_3 181 rfl rfl), (zat_1 12 rfl rfl), (zat_3 182 rfl rfl), (zyok_of (s := RX0) rfl zcm_0 zpd_36), by decide⟩
theorem zg5_0_6 : zP55e [6, 1, 739, 112, 740] := ⟨z_m6, zca_6, rfl, rfl, (zat_3 159 rfl rfl), (zat_1 12 rfl rfl), (zat_3 160 rfl rfl), (zyok_of (s := RX0) rfl zcm_0 zpd_15), by decide⟩
noncomputable def zg5L_0 : List (List Nat) := [[0, 2, 629, 112, 630], [1, 2, 644, 112, 645], [2, 2, 776, 112, 777], [3, 2, 711, 112, 712], [4, 2, 758, 112, 759], [5, 2, 761, 112, 762], [6, 1, 739, 112, 740]]
theorem zg5A_0 : ∀ e ∈ zg5L_0, zP55e e := List.forall_mem_cons.mpr ⟨zg5_0_0, List.forall_mem_cons.mpr ⟨zg5_0_1, List.forall_mem_cons.mpr ⟨zg5_0_2, List.forall_mem_cons.mpr ⟨zg5_0_3, List.forall_mem_cons.mpr ⟨zg5_0_4, List.forall_mem_cons.mpr ⟨zg5_0_5, List.forall_mem_cons.mpr ⟨zg5_0_6, fun _ h => absurd h List.not_mem_nil⟩⟩⟩⟩⟩⟩⟩
noncomputable def zg5L_1 : List (List Nat) := []
theorem zg5A_1 : ∀ e ∈ zg5L_1, zP55e e := fun _ h => absurd h List.not_mem_nil
theorem zg5_2_0 : zP55e [39, 1, 1252, 104, 1253] := ⟨z_m39, zca_39, rfl, rfl, (zat_5 192 rfl rfl), (zat_1 4 rfl rfl), (zat_5 193 rfl rfl), (zyok_of (s := RX2) rfl zcm_2 zpd_7), by decide⟩
theorem zg5_2_1 : zP55e [44, 3, 1099, 123, 1100] := ⟨z_m44, zca_44, rfl, rfl, (zat_5 39 rfl rfl), (zat_1 23 rfl rfl), (zat_5 40 rfl rfl), (zyok_of (s := RX3) rfl zcm_3 zpd_4), by decide⟩
theorem zg5_2_2 : zP55e [45, 2, 1102, 123, 1103] := ⟨z_m45, zca_45, rfl, rfl, (zat_5 42 rfl rfl), (zat_1 23 rfl rfl), (zat_5 43 rfl rfl), (zyok_of (s := RX3) rfl zcm_3 zpd_13), by decide⟩
noncomputable def zg5L_2 : List (List Nat) := [[39, 1, 1252, 104, 1253], [44, 3, 1099, 123, 1100], [45, 2, 1102, 123, 1103]]
theorem zg5A_2 : ∀ e ∈ zg5L_2, zP55e e := List.forall_mem_cons.mpr ⟨zg5_2_0, List.forall_mem_cons.mpr ⟨zg5_2_1, List.forall_mem_cons.mpr ⟨zg5_2_2, fun _ h => absurd h List.not_mem_nil⟩⟩⟩
noncomputable def zg5L_3 : List (List Nat) := []
theorem zg5A_3 : ∀ e ∈ zg5L_3, zP55e e := fun _ h => absurd h List.not_mem_nil
theorem zg5_4_0 : zP55e [65, 1, 1059, 127, 1060] := ⟨z_m65, zca_65, rfl, rfl, (zat_4 239 rfl rfl), (zat_1 27 rfl rfl), (zat_5 0 rfl rfl), (zyok_of (s := RX7) rfl zcm_7 zpd_7), by decide⟩
theorem zg5_4_1 : zP55e [66, 1, 1062, 127, 1063] := ⟨z_m66, zca_66, rfl, rfl, (zat_5 2 rfl rfl), (zat_1 27 rfl rfl), (zat_5 3 rfl rfl), (zyok_of (s := RX7) rfl zcm_7 zpd_7), by decide⟩
theorem zg5_4_2 : zP55e [67, 1, 553, 127, 554] := ⟨z_m67, zca_67, rfl, rfl, (zat_2 213 rfl rfl), (zat_1 27 rfl rfl), (zat_2 214 rfl rfl), (zyok_of (s := RX7) rfl zcm_7 zpd_7), by decide⟩
theorem zg5_4_3 : zP55e [68, 2, 1065, 127, 1066] := ⟨z_m68, zca_68, rfl, rfl, (zat_5 5 rfl rfl), (zat_1 27 rfl rfl), (zat_5 6 rfl rfl), (zyok_of (s := RX7) rfl zcm_7 zpd_38), by decide⟩
theorem zg5_4_4 : zP55e [69, 1, 445, 127, 446] := ⟨z_m69, zca_69, rfl, rfl, (zat_2 105 rfl rfl), (zat_1 27 rfl rfl), (zat_2 106 rfl rfl), (zyok_of (s := RX7) rfl zcm_7 zpd_39), by decide⟩
theorem zg5_4_5 : zP55e [70, 3, 550, 127, 551] := ⟨z_m70, zca_70, rfl, rfl, (zat_2 210 rfl rfl), (zat_1 27 rfl rfl), (zat_2 211 rfl rfl), (zyok_of (s := RX7) rfl zcm_7 zpd_40), by decide⟩
theorem zg5_4_6 : zP55e [71, 1, 459, 127, 460] := ⟨z_m71, zca_71, rfl, rfl, (zat_2 119 rfl rfl), (zat_1 27 rfl rfl), (zat_2 120 rfl rfl), (zyok_of (s := RX7) rfl zcm_7 zpd_39), by decide⟩
theorem zg5_4_7 : zP55e [72, 1, 547, 127, 548] := ⟨z_m72, zca_72, rfl, rfl, (zat_2 207 rfl rfl), (zat_1 27 rfl rfl), (zat_2 208 rfl rfl), (zyok_of (s := RX7) rfl zcm_7 zpd_39), by decide⟩
theorem zg5_4_8 : zP55e [73, 2, 1366, 127, 1367] := ⟨z_m73, zca_73, rfl, rfl, (zat_6 66 rfl rfl), (zat_1 27 rfl rfl), (zat_6 67 rfl rfl), (zyok_of (s := RX7) rfl zcm_7 zpd_38), by decide⟩
theorem zg5_4_9 : zP55e [74, 2, 1369, 127, 1370] := ⟨z_m74, zca_74, rfl, rfl, (zat_6 69 rfl rfl), (zat_1 27 rfl rfl), (zat_6 70 rfl rfl), (zyok_of (s := RX7) rfl zcm_7 zpd_9), by decide⟩
theorem zg5_4_10 : zP55e [75, 1, 560, 127, 561] := ⟨z_m75, zca_75, rfl, rfl, (zat_2 220 rfl rfl), (zat_1 27 rfl rfl), (zat_2 221 rfl rfl), (zyok_of (s := RX7) rfl zcm_7 zpd_39), by decide⟩
theorem zg5_4_11 : zP55e [76, 1, 475, 127, 476] := ⟨z_m76, zca_76, rfl, rfl, (zat_2 135 rfl rfl), (zat_1 27 rfl rfl), (zat_2 136 rfl rfl), (zyok_of (s := RX7) rfl zcm_7 zpd_39), by decide⟩
theorem zg5_4_12 : zP55e [77, 1, 493, 127, 494] := ⟨z_m77, zca_77, rfl, rfl, (zat_2 153 rfl rfl), (zat_1 27 rfl rfl), (zat_2 154 rfl rfl), (zyok_of (s := RX7) rfl zcm_7 zpd_39), by decide⟩
theorem zg5_4_13 : zP55e [78, 3, 496, 127, 497] := ⟨z_m78, zca_78, rfl, rfl, (zat_2 156 rfl rfl), (zat_1 27 rfl rfl), (zat_2 157 rfl rfl), (zyok_of (s := RX7) rfl zcm_7 zpd_40), by decide⟩
theorem zg5_4_14 : zP55e [79, 4, 499, 127, 500] := ⟨z_m79, zca_79, rfl, rfl, (zat_2 159 rfl rfl), (zat_1 27 rfl rfl), (zat_2 160 rfl rfl), (zyok_of (s := RX7) rfl zcm_7 zpd_41), by decide⟩
noncomputable def zg5L_4 : List (List Nat) := [[65, 1, 1059, 127, 1060], [66, 1, 1062, 127, 1063], [67, 1, 553, 127, 554], [68, 2, 1065, 127, 1066], [69, 1, 445, 127, 446], [70, 3, 550, 127, 551], [71, 1, 459, 127, 460], [72, 1, 547, 127, 548], [73, 2, 1366, 127, 1367], [74, 2, 1369, 127, 1370], [75, 1, 560, 127, 561], [76, 1, 475, 127, 476], [77, 1, 493, 127, 494], [78, 3, 496, 127, 497], [79, 4, 499, 127, 500]]
theorem zg5A_4 : ∀ e ∈ zg5L_4, zP55e e := List.forall_mem_cons.mpr ⟨zg5_4_0, List.forall_mem_cons.mpr ⟨zg5_4_1, List.forall_mem_cons.mpr ⟨zg5_4_2, List.forall_mem_cons.mpr ⟨zg5_4_3, List.forall_mem_cons.mpr ⟨zg5_4_4, List.forall_mem_cons.mpr ⟨zg5_4_5, List.forall_mem_cons.mpr ⟨zg5_4_6, List.forall_mem_cons.mpr ⟨zg5_4_7, List.forall_mem_cons.mpr ⟨zg5_4_8, List.forall_mem_cons.mpr ⟨zg5_4_9, List.forall_mem_cons.mpr ⟨zg5_4_10, List.forall_mem_cons.mpr ⟨zg5_4_11, List.forall_mem_cons.mpr ⟨zg5_4_12, List.forall_mem_cons.mpr ⟨zg5_4_13, List.forall_mem_cons.mpr ⟨zg5_4_14, fun _ h => absurd h List.not_mem_nil⟩⟩⟩⟩⟩⟩⟩⟩⟩⟩⟩⟩⟩⟩⟩
theorem zg5_5_0 : zP55e [80, 1, 514, 127, 515] := ⟨z_m80, zca_80, rfl, rfl, (zat_2 174 rfl rfl), (zat_1 27 rfl rfl), (zat_2 175 rfl rfl), (zyok_of (s := RX7) rfl zcm_7 zpd_39), by decide⟩
theorem zg5_5_1 : zP55e [81, 2, 1308, 127, 1309] := ⟨z_m81, zca_81, rfl, rfl, (zat_6 8 rfl rfl), (zat_1 27 rfl rfl), (zat_6 9 rfl rfl), (zyok_of (s := RX7) rfl zcm_7 zpd_38), by decide⟩
theorem zg5_5_2 : zP55e [82, 3, 1312, 127, 1313] := ⟨z_m82, zca_82, rfl, rfl, (zat_6 12 rfl rfl), (zat_1 27 rfl rfl), (zat_6 13 rfl rfl), (zyok_of (s := RX7) rfl zcm_7 zpd_42), by decide⟩
theorem zg5_5_3 : zP55e [83, 2, 1315, 127, 1316] := ⟨z_m83, zca_83, rfl, rfl, (zat_6 15 rfl rfl), (zat_1 27 rfl rfl), (zat_6 16 rfl rfl), (zyok_of (s := RX7) rfl zcm_7 zpd_38), by decide⟩
noncomputable def zg5L_5 : List (List Nat) := [[80, 1, 514, 127, 515], [81, 2, 1308, 127, 1309], [82, 3, 1312, 127, 1313], [83, 2, 1315, 127, 1316]]
theorem zg5A_5 : ∀ e ∈ zg5L_5, zP55e e := List.forall_mem_cons.mpr ⟨zg5_5_0, List.forall_mem_cons.mpr ⟨zg5_5_1, List.forall_mem_cons.mpr ⟨zg5_5_2, List.forall_mem_cons.mpr ⟨zg5_5_3, fun _ h => absurd h List.not_mem_nil⟩⟩⟩⟩
theorem zg5_6_0 : zP55e [98, 1, 670, 102, 671] := ⟨z_m98, zca_98, rfl, rfl, (zat_3 90 rfl rfl), (zat_1 2 rfl rfl), (zat_3 91 rfl rfl), (zyok_of (s := RX8) rfl zcm_8 zpd_1), by decide⟩
theorem zg5_6_1 : zP55e [99, 1, 728, 102, 729] := ⟨z_m99, zca_99, rfl, rfl, (zat_3 148 rfl rfl), (zat_1 2 rfl rfl), (zat_3 149 rfl rfl), (zyok_of (s := RX8) rfl zcm_8 zpd_1), by decide⟩
theorem zg5_6_2 : zP55e [110, 2, 522, 129, 523] := ⟨z_m110, zca_110, rfl, rfl, (zat_2 182 rfl rfl), (zat_1 29 rfl rfl), (zat_2 183 rfl rfl), (zyok_of (s := RX10) rfl zcm_10 zpd_38), by decide⟩
theorem zg5_6_3 : zP55e [111, 3, 1292, 129, 1293] := ⟨z_m111, zca_111, rfl, rfl, (zat_5 232 rfl rfl), (zat_1 29 rfl rfl), (zat_5 233 rfl rfl), (zyok_of (s := RX10) rfl zcm_10 zpd_40), by decide⟩
noncomputable def zg5L_6 : List (List Nat) := [[98, 1, 670, 102, 671], [99, 1, 728, 102, 729], [110, 2, 522, 129, 523], [111, 3, 1292, 129, 1293]]
theorem zg5A_6 : ∀ e ∈ zg5L_6, zP55e e := List.forall_mem_cons.mpr ⟨zg5_6_0, List.forall_mem_cons.mpr ⟨zg5_6_1, List.forall_mem_cons.mpr ⟨zg5_6_2, List.forall_mem_cons.mpr ⟨zg5_6_3, fun _ h => absurd h List.not_mem_nil⟩⟩⟩⟩
theorem zg5_7_0 : zP55e [112, 1, 1297, 129, 1298] := ⟨z_m112, zca_112, rfl, rfl, (zat_5 237 rfl rfl), (zat_1 29 rfl rfl), (zat_5 238 rfl rfl), (zyok_of (s := RX10) rfl zcm_10 zpd_43), by decide⟩
theorem zg5_7_1 : zP55e [113, 4, 1325, 129, 1326] := ⟨z_m113, zca_113, rfl, rfl, (zat_6 25 rfl rfl), (zat_1 29 rfl rfl), (zat_6 26 rfl rfl), (zyok_of (s := RX10) rfl zcm_10 zpd_41), by decide⟩
theorem zg5_7_2 : zP55e [114, 5, 1328, 129, 1329] := ⟨z_m114, zca_114, rfl, rfl, (zat_6 28 rfl rfl), (zat_1 29 rfl rfl), (zat_6 29 rfl rfl), (zyok_of (s := RX10) rfl zcm_10 zpd_44), by decide⟩
theorem zg5_7_3 : zP55e [115, 5, 1331, 129, 1332] := ⟨z_m115, zca_115, rfl, rfl, (zat_6 31 rfl rfl), (zat_1 29 rfl rfl), (zat_6 32 rfl rfl), (zyok_of (s := RX10) rfl zcm_10 zpd_45), by decide⟩
theorem zg5_7_4 : zP55e [116, 1, 567, 129, 568] := ⟨z_m116, zca_116, rfl, rfl, (zat_2 227 rfl rfl), (zat_1 29 rfl rfl), (zat_2 228 rfl rfl), (zyok_of (s := RX10) rfl zcm_10 zpd_39), by decide⟩
noncomputable def zg5L_7 : List (List Nat) := [[112, 1, 1297, 129, 1298], [113, 4, 1325, 129, 1326], [114, 5, 1328, 129, 1329], [115, 5, 1331, 129, 1332], [116, 1, 567, 129, 568]]
theorem zg5A_7 : ∀ e ∈ zg5L_7, zP55e e := List.forall_mem_cons.mpr ⟨zg5_7_0, List.forall_mem_cons.mpr ⟨zg5_7_1, List.forall_mem_cons.mpr ⟨zg5_7_2, List.forall_mem_cons.mpr ⟨zg5_7_3, List.forall_mem_cons.mpr ⟨zg5_7_4, fun _ h => absurd h List.not_mem_nil⟩⟩⟩⟩⟩
noncomputable def zg5L_8 : List (List Nat) := []
theorem zg5A_8 : ∀ e ∈ zg5L_8, zP55e e := fun _ h => absurd h List.not_mem_nil
noncomputable def zg5L_9 : List (List Nat) := []
theorem zg5A_9 : ∀ e ∈ zg5L_9, zP55e e := fun _ h => absurd h List.not_mem_nil
noncomputable def zg5L_10 : List (List Nat) := []
theorem zg5A_10 : ∀ e ∈ zg5L_10, zP55e e := fun _ h => absurd h List.not_mem_nil
theorem zg5_11_0 : zP55e [177, 3, 1743, 110, 1744] := ⟨z_m177, zca_177, rfl, rfl, (zat_7 203 rfl rfl), (zat_1 10 rfl rfl), (zat_7 204 rfl rfl), (zyok_of (s := RX12) rfl zcm_12 zpd_34), by decide⟩
theorem zg5_11_1 : zP55e [178, 2, 1635, 110, 1636] := ⟨z_m178, zca_178, rfl, rfl, (zat_7 95 rfl rfl), (zat_1 10 rfl rfl), (zat_7 96 rfl rfl), (zyok_of (s := RX12) rfl zcm_12 zpd_6), by decide⟩
theorem zg5_11_2 : zP55e [187, 1, 1624, 110, 1625] := ⟨z_m187, zca_187, rfl, rfl, (zat_7 84 rfl rfl), (zat_1 10 rfl rfl), (zat_7 85 rfl rfl), (zyok_of (s := RX12) rfl zcm_12 zpd_7), by decide⟩
theorem zg5_11_3 : zP55e [189, 2, 1628, 110, 1629] := ⟨z_m189, zca_189, rfl, rfl, (zat_7 88 rfl rfl), (zat_1 10 rfl rfl), (zat_7 89 rfl rfl), (zyok_of (s := RX12) rfl zcm_12 zpd_9), by decide⟩
noncomputable def zg5L_11 : List (List Nat) := [[177, 3, 1743, 110, 1744], [178, 2, 1635, 110, 1636], [187, 1, 1624, 110, 1625], [189, 2, 1628, 110, 1629]]
theorem zg5A_11 : ∀ e ∈ zg5L_11, zP55e e := List.forall_mem_cons.mpr ⟨zg5_11_0, List.forall_mem_cons.mpr ⟨zg5_11_1, List.forall_mem_cons.mpr ⟨zg5_11_2, List.forall_mem_cons.mpr ⟨zg5_11_3, fun _ h => absurd h List.not_mem_nil⟩⟩⟩⟩
theorem zg5_12_0 : zP55e [192, 2, 1665, 110, 1666] := ⟨z_m192, zca_192, rfl, rfl, (zat_7 125 rfl rfl), (zat_1 10 rfl rfl), (zat_7 126 rfl rfl), (zyok_of (s := RX12) rfl zcm_12 zpd_9), by decide⟩
theorem zg5_12_1 : zP55e [197, 1, 1740, 110, 1741] := ⟨z_m197, zca_197, rfl, rfl, (zat_7 200 rfl rfl), (zat_1 10 rfl rfl), (zat_7 201 rfl rfl), (zyok_of (s := RX12) rfl zcm_12 zpd_1), by decide⟩
noncomputable def zg5L_12 : List (List Nat) := [[192, 2, 1665, 110, 1666], [197, 1, 1740, 110, 1741]]
theorem zg5A_12 : ∀ e ∈ zg5L_12, zP55e e := List.forall_mem_cons.mpr ⟨zg5_12_0, List.forall_mem_cons.mpr ⟨zg5_12_1, fun _ h => absurd h List.not_mem_nil⟩⟩
noncomputable def zg5L_13 : List (List Nat) := []
theorem zg5A_13 : ∀ e ∈ zg5L_13, zP55e e := fun _ h => absurd h List.not_mem_nil
theorem zg5_14_0 : zP55e [235, 1, 1819, 110, 1820] := ⟨z_m235, zca_235, rfl, rfl, (zat_8 39 rfl rfl), (zat_1 10 rfl rfl), (zat_8 40 rfl rfl), (zyok_of (s := RX12) rfl zcm_12 zpd_1), by decide⟩
noncomputable def zg5L_14 : List (List Nat) := [[235, 1, 1819, 110, 1820]]
theorem zg5A_14 : ∀ e ∈ zg5L_14, zP55e e := List.forall_mem_cons.mpr ⟨zg5_14_0, fun _ h => absurd h List.not_mem_nil⟩
theorem zg5_15_0 : zP55e [245, 2, 1767, 110, 1768] := ⟨z_m245, zca_245, rfl, rfl, (zat_7 227 rfl rfl), (zat_1 10 rfl rfl), (zat_7 228 rfl rfl), (zyok_of (s := RX12) rfl zcm_12 zpd_9), by decide⟩
noncomputable def zg5L_15 : List (List Nat) := [[245, 2, 1767, 110, 1768]]
theorem zg5A_15 : ∀ e ∈ zg5L_15, zP55e e := List.forall_mem_cons.mpr ⟨zg5_15_0, fun _ h => absurd h List.not_mem_nil⟩
noncomputable def zg5L_16 : List (List Nat) := []
theorem zg5A_16 : ∀ e ∈ zg5L_16, zP55e e := fun _ h => absurd h List.not_mem_nil
theorem zg5_17_0 : zP55e [282, 1, 1980, 110, 1981] := ⟨z_m282, zca_282, rfl, rfl, (zat_8 200 rfl rfl), (zat_1 10 rfl rfl), (zat_8 201 rfl rfl), (zyok_of (s := RX12) rfl zcm_12 zpd_7), by decide⟩
noncomputable def zg5L_17 : List (List Nat) := [[282, 1, 1980, 110, 1981]]
theorem zg5A_17 : ∀ e ∈ zg5L_17, zP55e e := List.forall_mem_cons.mpr ⟨zg5_17_0, fun _ h => absurd h List.not_mem_nil⟩
theorem zg5_18_0 : zP55e [294, 1, 2028, 110, 2029] := ⟨z_m294, zca_294, rfl, rfl, (zat_9 8 rfl rfl), (zat_1 10 rfl rfl), (zat_9 9 rfl rfl), (zyok_of (s := RX12) rfl zcm_12 zpd_7), by decide⟩
noncomputable def zg5L_18 : List (List Nat) := [[294, 1, 2028, 110, 2029]]
theorem zg5A_18 : ∀ e ∈ zg5L_18, zP55e e := List.forall_mem_cons.mpr ⟨zg5_18_0, fun _ h => absurd h List.not_mem_nil⟩
theorem zg5_19_0 : zP55e [311, 1, 482, 126, 483] := ⟨z_m311, zca_311, rfl, rfl, (zat_2 142 rfl rfl), (zat_1 26 rfl rfl), (zat_2 143 rfl rfl), (zyok_of (s := RJ6) rfl zcm_13 zpd_7), by decide⟩
theorem zg5_19_1 : zP55e [312, 2, 452, 117, 453] := ⟨z_m312, zca_312, rfl, rfl, (zat_2 112 rfl rfl), (zat_1 17 rfl rfl), (zat_2 113 rfl rfl), (zyok_of (s := RJ9) rfl zcm_14 zpd_9), by decide⟩
theorem zg5_19_2 : zP55e [313, 2, 267, 108, 268] := ⟨z_m313, zca_313, rfl, rfl, (zat_1 167 rfl rfl), (zat_1 8 rfl rfl), (zat_1 168 rfl rfl), (zyok_of (s := RJ7) rfl zcm_15 zpd_46), by decide⟩
theorem zg5_19_3 : zP55e [314, 2, 953, 108, 954] := ⟨z_m314, zca_314, rfl, rfl, (zat_4 133 rfl rfl), (zat_1 8 rfl rfl), (zat_4 134 rfl rfl), (zyok_of (s := RJ7) rfl zcm_15 zpd_47), by decide⟩
noncomputable def zg5L_19 : List (List Nat) := [[311, 1, 482, 126, 483], [312, 2, 452, 117, 453], [313, 2, 267, 108, 268], [314, 2, 953, 108, 954]]
theorem zg5A_19 : ∀ e ∈ zg5L_19, zP55e e := List.forall_mem_cons.mpr ⟨zg5_19_0, List.forall_mem_cons.mpr ⟨zg5_19_1, List.forall_mem_cons.mpr ⟨zg5_19_2, List.forall_mem_cons.mpr ⟨zg5_19_3, fun _ h => absurd h List.not_mem_nil⟩⟩⟩⟩
noncomputable def zg5G : List (List (List Nat)) := [zg5L_0, zg5L_1, zg5L_2, zg5L_3, zg5L_4, zg5L_5, zg5L_6, zg5L_7, zg5L_8, zg5L_9, zg5L_10, zg5L_11, zg5L_12, zg5L_13, zg5L_14, zg5L_15, zg5L_16, zg5L_17, zg5L_18, zg5L_19]
theorem zg5A : ∀ L ∈ zg5G, ∀ e ∈ L, zP55e e := List.forall_mem_cons.mpr ⟨zg5A_0, List.forall_mem_cons.mpr ⟨zg5A_1, List.forall_mem_cons.mpr ⟨zg5A_2, List.forall_mem_cons.mpr ⟨zg5A_3, List.forall_mem_cons.mpr ⟨zg5A_4, List.forall_mem_cons.mpr ⟨zg5A_5, List.forall_mem_cons.mpr ⟨zg5A_6, List.forall_mem_cons.mpr ⟨zg5A_7, List.forall_mem_cons.mpr ⟨zg5A_8, List.forall_mem_cons.mpr ⟨zg5A_9, List.forall_mem_cons.mpr ⟨zg5A_10, List.forall_mem_cons.mpr ⟨zg5A_11, List.forall_mem_cons.mpr ⟨zg5A_12, List.forall_mem_cons.mpr ⟨zg5A_13, List.forall_mem_cons.mpr ⟨zg5A_14, List.forall_mem_cons.mpr ⟨zg5A_15, List.forall_mem_cons.mpr ⟨zg5A_16, List.forall_mem_cons.mpr ⟨zg5A_17, List.forall_mem_cons.mpr ⟨zg5A_18, List.forall_mem_cons.mpr ⟨zg5A_19, fun _ h => absurd h List.not_mem_nil⟩⟩⟩⟩⟩⟩⟩⟩⟩⟩⟩⟩⟩⟩⟩⟩⟩⟩⟩⟩
noncomputable def zg2L_0 : List (List Nat) := []
theorem zg2A_0 : ∀ e ∈ zg2L_0, zP72e e := fun _ h => absurd h List.not_mem_nil
noncomputable def zg2L_1 : List (List Nat) := []
theorem zg2A_1 : ∀ e ∈ zg2L_1, zP72e e := fun _ h => absurd h List.not_mem_nil
noncomputable def zg2L_2 : List (List Nat) := []
theorem zg2A_2 : ∀ e ∈ zg2L_2, zP72e e := fun _ h => absurd h List.not_mem_nil
noncomputable def zg2L_3 : List (List Nat) := []
theorem zg2A_3 : ∀ e ∈ zg2L_3, zP72e e := fun _ h => absurd h List.not_mem_nil
noncomputable def zg2L_4 : List (List Nat) := []
theorem zg2A_4 : ∀ e ∈ zg2L_4, zP72e e := fun _ h => absurd h List.not_mem_nil
noncomputable def zg2L_5 : List (List Nat) := []
theorem zg2A_5 : ∀ e ∈ zg2L_5, zP72e e := fun _ h => absurd h List.not_mem_nil
noncomputable def zg2L_6 : List (List Nat) := []
theorem zg2A_6 : ∀ e ∈ zg2L_6, zP72e e := fun _ h => absurd h List.not_mem_nil
noncomputable def zg2L_7 : List (List Nat) := []
theorem zg2A_7 : ∀ e ∈ zg2L_7, zP72e e := fun _ h => absurd h List.not_mem_nil
noncomputable def zg2L_8 : List (List Nat) := []
theorem zg2A_8 : ∀ e ∈ zg2L_8, zP72e e := fun _ h => absurd h List.not_mem_nil
noncomputable def zg2L_9 : List (List Nat) := []
theorem zg2A_9 : ∀ e ∈ zg2L_9, zP72e e := fun _ h => absurd h List.not_mem_nil
noncomputable def zg2L_10 : List (List Nat) := []
theorem zg2A_10 : ∀ e ∈ zg2L_10, zP72e e := fun _ h => absurd h List.not_mem_nil
noncomputable def zg2L_11 : List (List Nat) := []
theorem zg2A_11 : ∀ e ∈ zg2L_11, zP72e e := fun _ h => absurd h List.not_mem_nil
noncomputable def zg2L_12 : List (List Nat) := []
theorem zg2A_12 : ∀ e ∈ zg2L_12, zP72e e := fun _ h => absurd h List.not_mem_nil
noncomputable def zg2L_13 : List (List Nat) := []
theorem zg2A_13 : ∀ e ∈ zg2L_13, zP72e e := fun _ h => absurd h List.not_mem_nil
noncomputable def zg2L_14 : List (List Nat) := []
theorem zg2A_14 : ∀ e ∈ zg2L_14, zP72e e := fun _ h => absurd h List.not_mem_nil
noncomputable def zg2L_15 : List (List Nat) := []
theorem zg2A_15 : ∀ e ∈ zg2L_15, zP72e e := fun _ h => absurd h List.not_mem_nil
noncomputable def zg2L_16 : List (List Nat) := []
theorem zg2A_16 : ∀ e ∈ zg2L_16, zP72e e := fun _ h => absurd h List.not_mem_nil
noncomputable def zg2L_17 : List (List Nat) := []
theorem zg2A_17 : ∀ e ∈ zg2L_17, zP72e e := fun _ h => absurd h List.not_mem_nil
noncomputable def zg2L_18 : List (List Nat) := []
theorem zg2A_18 : ∀ e ∈ zg2L_18, zP72e e := fun _ h => absurd h List.not_mem_nil
theorem zg2_19_0 : zP72e [315, 2, 620, 100, 621] := ⟨z_m315, zca_315, (by decide), rfl, (zat_3 40 rfl rfl), (zat_1 0 rfl rfl), (zat_3 41 rfl rfl), (zyok_of (s := RL) rfl zcm_16 zpd_48), by decide⟩
theorem zg2_19_1 : zP72e [316, 2, 883, 100, 884] := ⟨z_m316, zca_316, (by decide), rfl, (zat_4 63 rfl rfl), (zat_1 0 rfl rfl), (zat_4 64 rfl rfl), (zyok_of (s := RL) rfl zcm_16 zpd_48), by decide⟩
theorem zg2_19_2 : zP72e [317, 3, 991, 100, 992] := ⟨z_m317, zca_317, (by decide), rfl, (zat_4 171 rfl rfl), (zat_1 0 rfl rfl), (zat_4 172 rfl rfl), (zyok_of (s := RL) rfl zcm_16 zpd_49), by decide⟩
theorem zg2_19_3 : zP72e [318, 4, 1019, 100, 1020] := ⟨z_m318, zca_318, (by decide), rfl, (zat_4 199 rfl rfl), (zat_1 0 rfl rfl), (zat_4 200 rfl rfl), (zyok_of (s := RL) rfl zcm_16 zpd_50), by decide⟩
theorem zg2_19_4 : zP72e [319, 5, 1068, 100, 1069] := ⟨z_m319, zca_319, (by decide), rfl, (zat_5 8 rfl rfl), (zat_1 0 rfl rfl), (zat_5 9 rfl rfl), (zyok_of (s := RL) rfl zcm_16 zpd_51), by decide⟩
noncomputable def zg2L_19 : List (List Nat) := [[315, 2, 620, 100, 621], [316, 2, 883, 100, 884], [317, 3, 991, 100, 992], [318, 4, 1019, 100, 1020], [319, 5, 1068, 100, 1069]]
theorem zg2A_19 : ∀ e ∈ zg2L_19, zP72e e := List.forall_mem_cons.mpr ⟨zg2_19_0, List.forall_mem_cons.mpr ⟨zg2_19_1, List.forall_mem_cons.mpr ⟨zg2_19_2, List.forall_mem_cons.mpr ⟨zg2_19_3, List.forall_mem_cons.mpr ⟨zg2_19_4, fun _ h => absurd h List.not_mem_nil⟩⟩⟩⟩⟩
theorem zg2_20_0 : zP72e [320, 4, 1109, 100, 1110] := ⟨z_m320, zca_320, (by decide), rfl, (zat_5 49 rfl rfl), (zat_1 0 rfl rfl), (zat_5 50 rfl rfl), (zyok_of (s := RL) rfl zcm_16 zpd_50), by decide⟩
theorem zg2_20_1 : zP72e [321, 4, 1134, 100, 1135] := ⟨z_m321, zca_321, (by decide), rfl, (zat_5 74 rfl rfl), (zat_1 0 rfl rfl), (zat_5 75 rfl rfl), (zyok_of (s := RL) rfl zcm_16 zpd_50), by decide⟩
theorem zg2_20_2 : zP72e [322, 4, 1179, 100, 1180] := ⟨z_m322, zca_322, (by decide), rfl, (zat_5 119 rfl rfl), (zat_1 0 rfl rfl), (zat_5 120 rfl rfl), (zyok_of (s := RL) rfl zcm_16 zpd_50), by decide⟩
theorem zg2_20_3 : zP72e [323, 4, 1186, 100, 1187] := ⟨z_m323, zca_323, (by decide), rfl, (zat_5 126 rfl rfl), (zat_1 0 rfl rfl), (zat_5 127 rfl rfl), (zyok_of (s := RL) rfl zcm_16 zpd_50), by decide⟩
theorem zg2_20_4 : zP72e [324, 3, 1193, 100, 1194] := ⟨z_m324, zca_324, (by decide), rfl, (zat_5 133 rfl rfl), (zat_1 0 rfl rfl), (zat_5 134 rfl rfl), (zyok_of (s := RL) rfl zcm_16 zpd_49), by decide⟩
theorem zg2_20_5 : zP72e [325, 3, 1200, 100, 1201] := ⟨z_m325, zca_325, (by decide), rfl, (zat_5 140 rfl rfl), (zat_1 0 rfl rfl), (zat_5 141 rfl rfl), (zyok_of (s := RL) rfl zcm_16 zpd_49), by decide⟩
theorem zg2_20_6 : zP72e [326, 3, 1209, 100, 1210] := ⟨z_m326, zca_326, (by decide), rfl, (zat_5 149 rfl rfl), (zat_1 0 rfl rfl), (zat_5 150 rfl rfl), (zyok_of (s := RL) rfl zcm_16 zpd_49), by decide⟩
theorem zg2_20_7 : zP72e [327, 2, 1220, 100, 1221] := ⟨z_m327, zca_327, (by decide), rfl, (zat_5 160 rfl rfl), (zat_1 0 rfl rfl), (zat_5 161 rfl rfl), (zyok_of (s := RL) rfl zcm_16 zpd_48), by decide⟩
theorem zg2_20_8 : zP72e [328, 3, 1227, 100, 1228] := ⟨z_m328, zca_328, (by decide), rfl, (zat_5 167 rfl rfl), (zat_1 0 rfl rfl), (zat_5 168 rfl rfl), (zyok_of (s := RL) rfl zcm_16 zpd_49), by decide⟩
theorem zg2_20_9 : zP72e [329, 4, 1277, 100, 1278] := ⟨z_m329, zca_329, (by decide), rfl, (zat_5 217 rfl rfl), (zat_1 0 rfl rfl), (zat_5 218 rfl rfl), (zyok_of (s := RL) rfl zcm_16 zpd_50), by decide⟩
theorem zg2_20_10 : zP72e [330, 4, 1285, 100, 1286] := ⟨z_m330, zca_330, (by decide), rfl, (zat_5 225 rfl rfl), (zat_1 0 rfl rfl), (zat_5 226 rfl rfl), (zyok_of (s := RL) rfl zcm_16 zpd_50), by decide⟩
theorem zg2_20_11 : zP72e [331, 3, 1301, 100, 1302] := ⟨z_m331, zca_331, (by decide), rfl, (zat_6 1 rfl rfl), (zat_1 0 rfl rfl), (zat_6 2 rfl rfl), (zyok_of (s := RL) rfl zcm_16 zpd_49), by decide⟩
theorem zg2_20_12 : zP72e [332, 5, 1318, 100, 1319] := ⟨z_m332, zca_332, (by decide), rfl, (zat_6 18 rfl rfl), (zat_1 0 rfl rfl), (zat_6 19 rfl rfl), (zyok_of (s := RL) rfl zcm_16 zpd_51), by decide⟩
theorem zg2_20_13 : zP72e [333, 3, 1335, 100, 1336] := ⟨z_m333, zca_333, (by decide), rfl, (zat_6 35 rfl rfl), (zat_1 0 rfl rfl), (zat_6 36 rfl rfl), (zyok_of (s := RL) rfl zcm_16 zpd_52), by decide⟩
theorem zg2_20_14 : zP72e [334, 3, 1359, 100, 1360] := ⟨z_m334, zca_334, (by decide), rfl, (zat_6 59 rfl rfl), (zat_1 0 rfl rfl), (zat_6 60 rfl rfl), (zyok_of (s := RL) rfl zcm_16 zpd_49), by decide⟩
theorem zg2_20_15 : zP72e [335, 4, 1372, 100, 1373] := ⟨z_m335, zca_335, (by decide), rfl, (zat_6 72 rfl rfl), (zat_1 0 rfl rfl), (zat_6 73 rfl rfl), (zyok_of (s := RL) rfl zcm_16 zpd_50), by decide⟩
noncomputable def zg2L_20 : List (List Nat) := [[320, 4, 1109, 100, 1110], [321, 4, 1134, 100, 1135], [322, 4, 1179, 100, 1180], [323, 4, 1186, 100, 1187], [324, 3, 1193, 100, 1194], [325, 3, 1200, 100, 1201], [326, 3, 1209, 100, 1210], [327, 2, 1220, 100, 1221], [328, 3, 1227, 100, 1228], [329, 4, 1277, 100, 1278], [330, 4, 1285, 100, 1286], [331, 3, 1301, 100, 1302], [332, 5, 1318, 100, 1319], [333, 3, 1335, 100, 1336], [334, 3, 1359, 100, 1360], [335, 4, 1372, 100, 1373]]
theorem zg2A_20 : ∀ e ∈ zg2L_20, zP72e e := List.forall_mem_cons.mpr ⟨zg2_20_0, List.forall_mem_cons.mpr ⟨zg2_20_1, List.forall_mem_cons.mpr ⟨zg2_20_2, List.forall_mem_cons.mpr ⟨zg2_20_3, List.forall_mem_cons.mpr ⟨zg2_20_4, List.forall_mem_cons.mpr ⟨zg2_20_5, List.forall_mem_cons.mpr ⟨zg2_20_6, List.forall_mem_cons.mpr ⟨zg2_20_7, List.forall_mem_cons.mpr ⟨zg2_20_8, List.forall_mem_cons.mpr ⟨zg2_20_9, List.forall_mem_cons.mpr ⟨zg2_20_10, List.forall_mem_cons.mpr ⟨zg2_20_11, List.forall_mem_cons.mpr ⟨zg2_20_12, List.forall_mem_cons.mpr ⟨zg2_20_13, List.forall_mem_cons.mpr ⟨zg2_20_14, List.forall_mem_cons.mpr ⟨zg2_20_15, fun _ h => absurd h List.not_mem_nil⟩⟩⟩⟩⟩⟩⟩⟩⟩⟩⟩⟩⟩⟩⟩⟩
theorem zg2_21_0 : zP72e [336, 3, 1379, 100, 1380] := ⟨z_m336, zca_336, (by decide), rfl, (zat_6 79 rfl rfl), (zat_1 0 rfl rfl), (zat_6 80 rfl rfl), (zyok_of (s := RL) rfl zcm_16 zpd_49), by decide⟩
theorem zg2_21_1 : zP72e [337, 3, 1386, 100, 1387] := ⟨z_m337, zca_337, (by decide), rfl, (zat_6 86 rfl rfl), (zat_1 0 rfl rfl), (zat_6 87 rfl rfl), (zyok_of (s := RL) rfl zcm_16 zpd_49), by decide⟩
theorem zg2_21_2 : zP72e [338, 3, 1393, 100, 1394] := ⟨z_m338, zca_338, (by decide), rfl, (zat_6 93 rfl rfl), (zat_1 0 rfl rfl), (zat_6 94 rfl rfl), (zyok_of (s := RL) rfl zcm_16 zpd_49), by decide⟩
theorem zg2_21_3 : zP72e [339, 4, 1400, 100, 1401] := ⟨z_m339, zca_339, (by decide), rfl, (zat_6 100 rfl rfl), (zat_1 0 rfl rfl), (zat_6 101 rfl rfl), (zyok_of (s := RL) rfl zcm_16 zpd_53), by decide⟩
theorem zg2_21_4 : zP72e [340, 4, 1415, 100, 1416] := ⟨z_m340, zca_340, (by decide), rfl, (zat_6 115 rfl rfl), (zat_1 0 rfl rfl), (zat_6 116 rfl rfl), (zyok_of (s := RL) rfl zcm_16 zpd_53), by decide⟩
theorem zg2_21_5 : zP72e [341, 4, 1424, 100, 1425] := ⟨z_m341, zca_341, (by decide), rfl, (zat_6 124 rfl rfl), (zat_1 0 rfl rfl), (zat_6 125 rfl rfl), (zyok_of (s := RL) rfl zcm_16 zpd_53), by decide⟩
theorem zg2_21_6 : zP72e [342, 4, 1444, 100, 1445] := ⟨z_m342, zca_342, (by decide), rfl, (zat_6 144 rfl rfl), (zat_1 0 rfl rfl), (zat_6 145 rfl rfl), (zyok_of (s := RL) rfl zcm_16 zpd_50), by decide⟩
noncomputable def zg2L_21 : List (List Nat) := [[336, 3, 1379, 100, 1380], [337, 3, 1386, 100, 1387], [338, 3, 1393, 100, 1394], [339, 4, 1400, 100, 1401], [340, 4, 1415, 100, 1416], [341, 4, 1424, 100, 1425], [342, 4, 1444, 100, 1445]]
theorem zg2A_21 : ∀ e ∈ zg2L_21, zP72e e := List.forall_mem_cons.mpr ⟨zg2_21_0, List.forall_mem_cons.mpr ⟨zg2_21_1, List.forall_mem_cons.mpr ⟨zg2_21_2, List.forall_mem_cons.mpr ⟨zg2_21_3, List.forall_mem_cons.mpr ⟨zg2_21_4, List.forall_mem_cons.mpr ⟨zg2_21_5, List.forall_mem_cons.mpr ⟨zg2_21_6, fun _ h => absurd h List.not_mem_nil⟩⟩⟩⟩⟩⟩⟩
noncomputable def zg2G : List (List (List Nat)) := [zg2L_0, zg2L_1, zg2L_2, zg2L_3, zg2L_4, zg2L_5, zg2L_6, zg2L_7, zg2L_8, zg2L_9, zg2L_10, zg2L_11, zg2L_12, zg2L_13, zg2L_14, zg2L_15, zg2L_16, zg2L_17, zg2L_18, zg2L_19, zg2L_20, zg2L_21]
theorem zg2A : ∀ L ∈ zg2G, ∀ e ∈ L, zP72e e := List.forall_mem_cons.mpr ⟨zg2A_0, List.forall_mem_cons.mpr ⟨zg2A_1, List.forall_mem_cons.mpr ⟨zg2A_2, List.forall_mem_cons.mpr ⟨zg2A_3, List.forall_mem_cons.mpr ⟨zg2A_4, List.forall_mem_cons.mpr ⟨zg2A_5, List.forall_mem_cons.mpr ⟨zg2A_6, List.forall_mem_cons.mpr ⟨zg2A_7, List.forall_mem_cons.mpr ⟨zg2A_8, List.forall_mem_cons.mpr ⟨zg2A_9, List.forall_mem_cons.mpr ⟨zg2A_10, List.forall_mem_cons.mpr ⟨zg2A_11, List.forall_mem_cons.mpr ⟨zg2A_12, List.forall_mem_cons.mpr ⟨zg2A_13, List.forall_mem_cons.mpr ⟨zg2A_14, List.forall_mem_cons.mpr ⟨zg2A_15, List.forall_mem_cons.mpr ⟨zg2A_16, List.forall_mem_cons.mpr ⟨zg2A_17, List.forall_mem_cons.mpr ⟨zg2A_18, List.forall_mem_cons.mpr ⟨zg2A_19, List.forall_mem_cons.mpr ⟨zg2A_20, List.forall_mem_cons.mpr ⟨zg2A_21, fun _ h => absurd h List.not_mem_nil⟩⟩⟩⟩⟩⟩⟩⟩⟩⟩⟩⟩⟩⟩⟩⟩⟩⟩⟩⟩⟩⟩
noncomputable def zg7L_0 : List (List Nat) := []
theorem zg7A_0 : ∀ e ∈ zg7L_0, zP37e e := fun _ h => absurd h List.not_mem_nil
noncomputable def zg7L_1 : List (List Nat) := []
theorem zg7A_1 : ∀ e ∈ zg7L_1, zP37e e := fun _ h => absurd h List.not_mem_nil
noncomputable def zg7L_2 : List (List Nat) := []
theorem zg7A_2 : ∀ e ∈ zg7L_2, zP37e e := fun _ h => absurd h List.not_mem_nil
noncomputable def zg7L_3 : List (List Nat) := []
theorem zg7A_3 : ∀ e ∈ zg7L_3, zP37e e := fun _ h => absurd h List.not_mem_nil
theorem zg7_4_0 : zP37e [8, 11, 6, 0, 144] := ⟨(RX8, TX8, 4), rfl, by decide, (zat_1 44 rfl rfl)⟩
theorem zg7_4_1 : zP37e [8, 15, 6, 1, 145] := ⟨(RX8, TX8, 4), rfl, by decide, (zat_1 45 rfl rfl)⟩
theorem zg7_4_2 : zP37e [8, 19, 6, 2, 147] := ⟨(RX8, TX8, 4), rfl, by decide, (zat_1 47 rfl rfl)⟩
theorem zg7_4_3 : zP37e [8, 22, 6, 3, 148] := ⟨(RX8, TX8, 4), rfl, by decide, (zat_1 48 rfl rfl)⟩
theorem zg7_4_4 : zP37e [11, 51, 6, 1, 146] := ⟨(RX8, TX8, 4), rfl, by decide, (zat_1 46 rfl rfl)⟩
noncomputable def zg7L_4 : List (List Nat) := [[8, 11, 6, 0, 144], [8, 15, 6, 1, 145], [8, 19, 6, 2, 147], [8, 22, 6, 3, 148], [11, 51, 6, 1, 146]]
theorem zg7A_4 : ∀ e ∈ zg7L_4, zP37e e := List.forall_mem_cons.mpr ⟨zg7_4_0, List.forall_mem_cons.mpr ⟨zg7_4_1, List.forall_mem_cons.mpr ⟨zg7_4_2, List.forall_mem_cons.mpr ⟨zg7_4_3, List.forall_mem_cons.mpr ⟨zg7_4_4, fun _ h => absurd h List.not_mem_nil⟩⟩⟩⟩⟩
theorem zg7_5_0 : zP37e [4, 9, 3, 0, 165] := ⟨(RX4, TX4, 6), rfl, by decide, (zat_1 65 rfl rfl)⟩
theorem zg7_5_1 : zP37e [4, 13, 3, 1, 166] := ⟨(RX4, TX4, 6), rfl, by decide, (zat_1 66 rfl rfl)⟩
theorem zg7_5_2 : zP37e [4, 16, 3, 2, 167] := ⟨(RX4, TX4, 6), rfl, by decide, (zat_1 67 rfl rfl)⟩
theorem zg7_5_3 : zP37e [4, 21, 3, 3, 168] := ⟨(RX4, TX4, 6), rfl, by decide, (zat_1 68 rfl rfl)⟩
theorem zg7_5_4 : zP37e [4, 24, 3, 4, 169] := ⟨(RX4, TX4, 6), rfl, by decide, (zat_1 69 rfl rfl)⟩
theorem zg7_5_5 : zP37e [4, 28, 3, 5, 170] := ⟨(RX4, TX4, 6), rfl, by decide, (zat_1 70 rfl rfl)⟩
noncomputable def zg7L_5 : List (List Nat) := [[4, 9, 3, 0, 165], [4, 13, 3, 1, 166], [4, 16, 3, 2, 167], [4, 21, 3, 3, 168], [4, 24, 3, 4, 169], [4, 28, 3, 5, 170]]
theorem zg7A_5 : ∀ e ∈ zg7L_5, zP37e e := List.forall_mem_cons.mpr ⟨zg7_5_0, List.forall_mem_cons.mpr ⟨zg7_5_1, List.forall_mem_cons.mpr ⟨zg7_5_2, List.forall_mem_cons.mpr ⟨zg7_5_3, List.forall_mem_cons.mpr ⟨zg7_5_4, List.forall_mem_cons.mpr ⟨zg7_5_5, fun _ h => absurd h List.not_mem_nil⟩⟩⟩⟩⟩⟩
theorem zg7_6_0 : zP37e [0, 138, 0, 4, 209] := ⟨(RX1, TX1, 5), rfl, by decide, (zat_1 109 rfl rfl)⟩
theorem zg7_6_1 : zP37e [1, 9, 0, 0, 196] := ⟨(RX1, TX1, 5), rfl, by decide, (zat_1 96 rfl rfl)⟩
theorem zg7_6_2 : zP37e [1, 15, 0, 1, 198] := ⟨(RX1, TX1, 5), rfl, by decide, (zat_1 98 rfl rfl)⟩
theorem zg7_6_3 : zP37e [1, 18, 0, 2, 201] := ⟨(RX1, TX1, 5), rfl, by decide, (zat_1 101 rfl rfl)⟩
theorem zg7_6_4 : zP37e [1, 21, 0, 3, 204] := ⟨(RX1, TX1, 5), rfl, by decide, (zat_1 104 rfl rfl)⟩
theorem zg7_6_5 : zP37e [1, 24, 0, 4, 207] := ⟨(RX1, TX1, 5), rfl, by decide, (zat_1 107 rfl rfl)⟩
theorem zg7_6_6 : zP37e [2, 125, 0, 2, 203] := ⟨(RX1, TX1, 5), rfl, by decide, (zat_1 103 rfl rfl)⟩
theorem zg7_6_7 : zP37e [2, 132, 0, 1, 200] := ⟨(RX1, TX1, 5), rfl, by decide, (zat_1 100 rfl rfl)⟩
theorem zg7_6_8 : zP37e [7, 41, 0, 4, 210] := ⟨(RX1, TX1, 5), rfl, by decide, (zat_1 110 rfl rfl)⟩
theorem zg7_6_9 : zP37e [7, 53, 0, 3, 206] := ⟨(RX1, TX1, 5), rfl, by decide, (zat_1 106 rfl rfl)⟩
theorem zg7_6_10 : zP37e [10, 35, 0, 4, 208] := ⟨(RX1, TX1, 5), rfl, by decide, (zat_1 108 rfl rfl)⟩
theorem zg7_6_11 : zP37e [10, 66, 0, 0, 197] := ⟨(RX1, TX1, 5), rfl, by decide, (zat_1 97 rfl rfl)⟩
theorem zg7_6_12 : zP37e [11, 132, 0, 1, 199] := ⟨(RX1, TX1, 5), rfl, by decide, (zat_1 99 rfl rfl)⟩
theorem zg7_6_13 : zP37e [11, 135, 0, 2, 202] := ⟨(RX1, TX1, 5), rfl, by decide, (zat_1 102 rfl rfl)⟩
theorem zg7_6_14 : zP37e [11, 138, 0, 3, 205] := ⟨(RX1, TX1, 5), rfl, by decide, (zat_1 105 rfl rfl)⟩
theorem zg7_6_15 : zP37e [11, 334, 0, 4, 211] := ⟨(RX1, TX1, 5), rfl, by decide, (zat_1 111 rfl rfl)⟩
noncomputable def zg7L_6 : List (List Nat) := [[0, 138, 0, 4, 209], [1, 9, 0, 0, 196], [1, 15, 0, 1, 198], [1, 18, 0, 2, 201], [1, 21, 0, 3, 204], [1, 24, 0, 4, 207], [2, 125, 0, 2, 203], [2, 132, 0, 1, 200], [7, 41, 0, 4, 210], [7, 53, 0, 3, 206], [10, 35, 0, 4, 208], [10, 66, 0, 0, 197], [11, 132, 0, 1, 199], [11, 135, 0, 2, 202], [11, 138, 0, 3, 205], [11, 334, 0, 4, 211]]
theorem zg7A_6 : ∀ e ∈ zg7L_6, zP37e e := List.forall_mem_cons.mpr ⟨zg7_6_0, List.forall_mem_cons.mpr ⟨zg7_6_1, List.forall_mem_cons.mpr ⟨zg7_6_2, List.forall_mem_cons.mpr ⟨zg7_6_3, List.forall_mem_cons.mpr ⟨zg7_6_4, List.forall_mem_cons.mpr ⟨zg7_6_5, List.forall_mem_cons.mpr ⟨zg7_6_6, List.forall_mem_cons.mpr ⟨zg7_6_7, List.forall_mem_cons.mpr ⟨zg7_6_8, List.forall_mem_cons.mpr ⟨zg7_6_9, List.forall_mem_cons.mpr ⟨zg7_6_10, List.forall_mem_cons.mpr ⟨zg7_6_11, List.forall_mem_cons.mpr ⟨zg7_6_12, List.forall_mem_cons.mpr ⟨zg7_6_13, List.forall_mem_cons.mpr ⟨zg7_6_14, List.forall_mem_cons.mpr ⟨zg7_6_15, fun _ h => absurd h List.not_mem_nil⟩⟩⟩⟩⟩⟩⟩⟩⟩⟩⟩⟩⟩⟩⟩⟩
theorem zg7_7_0 : zP37e [2, 136, 7, 0, 231] := ⟨(RX9, TX9, 4), rfl, by decide, (zat_1 131 rfl rfl)⟩
theorem zg7_7_1 : zP37e [2, 139, 7, 1, 234] := ⟨(RX9, TX9, 4), rfl, by decide, (zat_1 134 rfl rfl)⟩
theorem zg7_7_2 : zP37e [2, 186, 7, 3, 238] := ⟨(RX9, TX9, 4), rfl, by decide, (zat_1 138 rfl rfl)⟩
theorem zg7_7_3 : zP37e [5, 11, 4, 0, 255] := ⟨(RX5, TX5, 3), rfl, by decide, (zat_1 155 rfl rfl)⟩
theorem zg7_7_4 : zP37e [9, 9, 7, 0, 229] := ⟨(RX9, TX9, 4), rfl, by decide, (zat_1 129 rfl rfl)⟩
theorem zg7_7_5 : zP37e [9, 15, 7, 1, 232] := ⟨(RX9, TX9, 4), rfl, by decide, (zat_1 132 rfl rfl)⟩
theorem zg7_7_6 : zP37e [9, 18, 7, 2, 235] := ⟨(RX9, TX9, 4), rfl, by decide, (zat_1 135 rfl rfl)⟩
theorem zg7_7_7 : zP37e [9, 22, 7, 3, 237] := ⟨(RX9, TX9, 4), rfl, by decide, (zat_1 137 rfl rfl)⟩
theorem zg7_7_8 : zP37e [11, 169, 7, 0, 230] := ⟨(RX9, TX9, 4), rfl, by decide, (zat_1 130 rfl rfl)⟩
theorem zg7_7_9 : zP37e [11, 174, 7, 1, 233] := ⟨(RX9, TX9, 4), rfl, by decide, (zat_1 133 rfl rfl)⟩
theorem zg7_7_10 : zP37e [11, 337, 7, 3, 239] := ⟨(RX9, TX9, 4), rfl, by decide, (zat_1 139 rfl rfl)⟩
theorem zg7_7_11 : zP37e [11, 341, 7, 2, 236] := ⟨(RX9, TX9, 4), rfl, by decide, (zat_1 136 rfl rfl)⟩
noncomputable def zg7L_7 : List (List Nat) := [[2, 136, 7, 0, 231], [2, 139, 7, 1, 234], [2, 186, 7, 3, 238], [5, 11, 4, 0, 255], [9, 9, 7, 0, 229], [9, 15, 7, 1, 232], [9, 18, 7, 2, 235], [9, 22, 7, 3, 237], [11, 169, 7, 0, 230], [11, 174, 7, 1, 233], [11, 337, 7, 3, 239], [11, 341, 7, 2, 236]]
theorem zg7A_7 : ∀ e ∈ zg7L_7, zP37e e := List.forall_mem_cons.mpr ⟨zg7_7_0, List.forall_mem_cons.mpr ⟨zg7_7_1, List.forall_mem_cons.mpr ⟨zg7_7_2, List.forall_mem_cons.mpr ⟨zg7_7_3, List.forall_mem_cons.mpr ⟨zg7_7_4, List.forall_mem_cons.mpr ⟨zg7_7_5, List.forall_mem_cons.mpr ⟨zg7_7_6, List.forall_mem_cons.mpr ⟨zg7_7_7, List.forall_mem_cons.mpr ⟨zg7_7_8, List.forall_mem_cons.mpr ⟨zg7_7_9, List.forall_mem_cons.mpr ⟨zg7_7_10, List.forall_mem_cons.mpr ⟨zg7_7_11, fun _ h => absurd h List.not_mem_nil⟩⟩⟩⟩⟩⟩⟩⟩⟩⟩⟩⟩
theorem zg7_8_0 : zP37e [0, 35, 1, 1, 273] := ⟨(RX2, TX2, 18), rfl, by decide, (zat_1 173 rfl rfl)⟩
theorem zg7_8_1 : zP37e [0, 55, 1, 2, 277] := ⟨(RX2, TX2, 18), rfl, by decide, (zat_1 177 rfl rfl)⟩
theorem zg7_8_2 : zP37e [2, 9, 1, 0, 269] := ⟨(RX2, TX2, 18), rfl, by decide, (zat_1 169 rfl rfl)⟩
theorem zg7_8_3 : zP37e [2, 18, 1, 1, 271] := ⟨(RX2, TX2, 18), rfl, by decide, (zat_1 171 rfl rfl)⟩
theorem zg7_8_4 : zP37e [2, 25, 1, 2, 276] := ⟨(RX2, TX2, 18), rfl, by decide, (zat_1 176 rfl rfl)⟩
theorem zg7_8_5 : zP37e [2, 32, 1, 3, 279] := ⟨(RX2, TX2, 18), rfl, by decide, (zat_1 179 rfl rfl)⟩
theorem zg7_8_6 : zP37e [2, 38, 1, 4, 281] := ⟨(RX2, TX2, 18), rfl, by decide, (zat_1 181 rfl rfl)⟩
theorem zg7_8_7 : zP37e [2, 41, 1, 5, 282] := ⟨(RX2, TX2, 18), rfl, by decide, (zat_1 182 rfl rfl)⟩
theorem zg7_8_8 : zP37e [2, 45, 1, 6, 284] := ⟨(RX2, TX2, 18), rfl, by decide, (zat_1 184 rfl rfl)⟩
theorem zg7_8_9 : zP37e [2, 49, 1, 7, 286] := ⟨(RX2, TX2, 18), rfl, by decide, (zat_1 186 rfl rfl)⟩
theorem zg7_8_10 : zP37e [5, 15, 4, 1, 256] := ⟨(RX5, TX5, 3), rfl, by decide, (zat_1 156 rfl rfl)⟩
theorem zg7_8_11 : zP37e [5, 19, 4, 2, 257] := ⟨(RX5, TX5, 3), rfl, by decide, (zat_1 157 rfl rfl)⟩
theorem zg7_8_12 : zP37e [7, 31, 1, 1, 274] := ⟨(RX2, TX2, 18), rfl, by decide, (zat_1 174 rfl rfl)⟩
theorem zg7_8_13 : zP37e [10, 16, 1, 1, 272] := ⟨(RX2, TX2, 18), rfl, by decide, (zat_1 172 rfl rfl)⟩
theorem zg7_8_14 : zP37e [11, 75, 1, 6, 285] := ⟨(RX2, TX2, 18), rfl, by decide, (zat_1 185 rfl rfl)⟩
theorem zg7_8_15 : zP37e [11, 108, 1, 0, 270] := ⟨(RX2, TX2, 18), rfl, by decide, (zat_1 170 rfl rfl)⟩
theorem zg7_8_16 : zP37e [11, 123, 1, 1, 275] := ⟨(RX2, TX2, 18), rfl, by decide, (zat_1 175 rfl rfl)⟩
theorem zg7_8_17 : zP37e [11, 165, 1, 2, 278] := ⟨(RX2, TX2, 18), rfl, by decide, (zat_1 178 rfl rfl)⟩
theorem zg7_8_18 : zP37e [11, 315, 1, 3, 280] := ⟨(RX2, TX2, 18), rfl, by decide, (zat_1 180 rfl rfl)⟩
theorem zg7_8_19 : zP37e [11, 344, 4, 2, 258] := ⟨(RX5, TX5, 3), rfl, by decide, (zat_1 158 rfl rfl)⟩
noncomputable def zg7L_8 : List (List Nat) := [[0, 35, 1, 1, 273], [0, 55, 1, 2, 277], [2, 9, 1, 0, 269], [2, 18, 1, 1, 271], [2, 25, 1, 2, 276], [2, 32, 1, 3, 279], [2, 38, 1, 4, 281], [2, 41, 1, 5, 282], [2, 45, 1, 6, 284], [2, 49, 1, 7, 286], [5, 15, 4, 1, 256], [5, 19, 4, 2, 257], [7, 31, 1, 1, 274], [10, 16, 1, 1, 272], [11, 75, 1, 6, 285], [11, 108, 1, 0, 270], [11, 123, 1, 1, 275], [11, 165, 1, 2, 278], [11, 315, 1, 3, 280], [11, 344, 4, 2, 258]]
theorem zg7A_8 : ∀ e ∈ zg7L_8, zP37e e := List.forall_mem_cons.mpr ⟨zg7_8_0, List.forall_mem_cons.mpr ⟨zg7_8_1, List.forall_mem_cons.mpr ⟨zg7_8_2, List.forall_mem_cons.mpr ⟨zg7_8_3, List.forall_mem_cons.mpr ⟨zg7_8_4, List.forall_mem_cons.mpr ⟨zg7_8_5, List.forall_mem_cons.mpr ⟨zg7_8_6, List.forall_mem_cons.mpr ⟨zg7_8_7, List.forall_mem_cons.mpr ⟨zg7_8_8, List.forall_mem_cons.mpr ⟨zg7_8_9, List.forall_mem_cons.mpr ⟨zg7_8_10, List.forall_mem_cons.mpr ⟨zg7_8_11, List.forall_mem_cons.mpr ⟨zg7_8_12, List.forall_mem_cons.mpr ⟨zg7_8_13, List.forall_mem_cons.mpr ⟨zg7_8_14, List.forall_mem_cons.mpr ⟨zg7_8_15, List.forall_mem_cons.mpr ⟨zg7_8_16, List.forall_mem_cons.mpr ⟨zg7_8_17, List.forall_mem_cons.mpr ⟨zg7_8_18, List.forall_mem_cons.mpr ⟨zg7_8_19, fun _ h => absurd h List.not_mem_nil⟩⟩⟩⟩⟩⟩⟩⟩⟩⟩⟩⟩⟩⟩⟩⟩⟩⟩⟩⟩
theorem zg7_9_0 : zP37e [2, 52, 1, 8, 289] := ⟨(RX2, TX2, 18), rfl, by decide, (zat_1 189 rfl rfl)⟩
theorem zg7_9_1 : zP37e [2, 55, 1, 9, 290] := ⟨(RX2, TX2, 18), rfl, by decide, (zat_1 190 rfl rfl)⟩
theorem zg7_9_2 : zP37e [2, 58, 1, 10, 292] := ⟨(RX2, TX2, 18), rfl, by decide, (zat_1 192 rfl rfl)⟩
theorem zg7_9_3 : zP37e [2, 61, 1, 11, 294] := ⟨(RX2, TX2, 18), rfl, by decide, (zat_1 194 rfl rfl)⟩
theorem zg7_9_4 : zP37e [2, 64, 1, 12, 296] := ⟨(RX2, TX2, 18), rfl, by decide, (zat_1 196 rfl rfl)⟩
theorem zg7_9_5 : zP37e [2, 67, 1, 13, 297] := ⟨(RX2, TX2, 18), rfl, by decide, (zat_1 197 rfl rfl)⟩
theorem zg7_9_6 : zP37e [2, 70, 1, 14, 299] := ⟨(RX2, TX2, 18), rfl, by decide, (zat_1 199 rfl rfl)⟩
theorem zg7_9_7 : zP37e [2, 73, 1, 15, 301] := ⟨(RX2, TX2, 18), rfl, by decide, (zat_1 201 rfl rfl)⟩
theorem zg7_9_8 : zP37e [2, 76, 1, 16, 305] := ⟨(RX2, TX2, 18), rfl, by decide, (zat_1 205 rfl rfl)⟩
theorem zg7_9_9 : zP37e [2, 79, 1, 17, 307] := ⟨(RX2, TX2, 18), rfl, by decide, (zat_1 207 rfl rfl)⟩
theorem zg7_9_10 : zP37e [7, 16, 1, 7, 288] := ⟨(RX2, TX2, 18), rfl, by decide, (zat_1 188 rfl rfl)⟩
theorem zg7_9_11 : zP37e [10, 59, 1, 15, 303] := ⟨(RX2, TX2, 18), rfl, by decide, (zat_1 203 rfl rfl)⟩
theorem zg7_9_12 : zP37e [11, 187, 1, 15, 304] := ⟨(RX2, TX2, 18), rfl, by decide, (zat_1 204 rfl rfl)⟩
theorem zg7_9_13 : zP37e [11, 216, 1, 11, 295] := ⟨(RX2, TX2, 18), rfl, by decide, (zat_1 195 rfl rfl)⟩
theorem zg7_9_14 : zP37e [11, 219, 1, 10, 293] := ⟨(RX2, TX2, 18), rfl, by decide, (zat_1 193 rfl rfl)⟩
theorem zg7_9_15 : zP37e [11, 289, 1, 9, 291] := ⟨(RX2, TX2, 18), rfl, by decide, (zat_1 191 rfl rfl)⟩
theorem zg7_9_16 : zP37e [11, 298, 1, 17, 308] := ⟨(RX2, TX2, 18), rfl, by decide, (zat_1 208 rfl rfl)⟩
noncomputable def zg7L_9 : List (List Nat) := [[2, 52, 1, 8, 289], [2, 55, 1, 9, 290], [2, 58, 1, 10, 292], [2, 61, 1, 11, 294], [2, 64, 1, 12, 296], [2, 67, 1, 13, 297], [2, 70, 1, 14, 299], [2, 73, 1, 15, 301], [2, 76, 1, 16, 305], [2, 79, 1, 17, 307], [7, 16, 1, 7, 288], [10, 59, 1, 15, 303], [11, 187, 1, 15, 304], [11, 216, 1, 11, 295], [11, 219, 1, 10, 293], [11, 289, 1, 9, 291], [11, 298, 1, 17, 308]]
theorem zg7A_9 : ∀ e ∈ zg7L_9, zP37e e := List.forall_mem_cons.mpr ⟨zg7_9_0, List.forall_mem_cons.mpr ⟨zg7_9_1, List.forall_mem_cons.mpr ⟨zg7_9_2, List.forall_mem_cons.mpr ⟨zg7_9_3, List.forall_mem_cons.mpr ⟨zg7_9_4, List.forall_mem_cons.mpr ⟨zg7_9_5, List.forall_mem_cons.mpr ⟨zg7_9_6, List.forall_mem_cons.mpr ⟨zg7_9_7, List.forall_mem_cons.mpr ⟨zg7_9_8, List.forall_mem_cons.mpr ⟨zg7_9_9, List.forall_mem_cons.mpr ⟨zg7_9_10, List.forall_mem_cons.mpr ⟨zg7_9_11, List.forall_mem_cons.mpr ⟨zg7_9_12, List.forall_mem_cons.mpr ⟨zg7_9_13, List.forall_mem_cons.mpr ⟨zg7_9_14, List.forall_mem_cons.mpr ⟨zg7_9_15, List.forall_mem_cons.mpr ⟨zg7_9_16, fun _ h => absurd h List.not_mem_nil⟩⟩⟩⟩⟩⟩⟩⟩⟩⟩⟩⟩⟩⟩⟩⟩⟩
noncomputable def zg7L_10 : List (List Nat) := []
theorem zg7A_10 : ∀ e ∈ zg7L_10, zP37e e := fun _ h => absurd h List.not_mem_nil
theorem zg7_11_0 : zP37e [6, 11, 5, 0, 355] := ⟨(RX6, TX6, 3), rfl, by decide, (zat_2 15 rfl rfl)⟩
theorem zg7_11_1 : zP37e [6, 15, 5, 1, 356] := ⟨(RX6, TX6, 3), rfl, by decide, (zat_2 16 rfl rfl)⟩
theorem zg7_11_2 : zP37e [6, 19, 5, 2, 357] := ⟨(RX6, TX6, 3), rfl, by decide, (zat_2 17 rfl rfl)⟩
theorem zg7_11_3 : zP37e [11, 10, 8, 0, 366] := ⟨(RX11, TX11, 8), rfl, by decide, (zat_2 26 rfl rfl)⟩
theorem zg7_11_4 : zP37e [11, 19, 8, 1, 367] := ⟨(RX11, TX11, 8), rfl, by decide, (zat_2 27 rfl rfl)⟩
theorem zg7_11_5 : zP37e [11, 26, 8, 2, 368] := ⟨(RX11, TX11, 8), rfl, by decide, (zat_2 28 rfl rfl)⟩
theorem zg7_11_6 : zP37e [11, 30, 8, 3, 369] := ⟨(RX11, TX11, 8), rfl, by decide, (zat_2 29 rfl rfl)⟩
theorem zg7_11_7 : zP37e [11, 33, 8, 4, 370] := ⟨(RX11, TX11, 8), rfl, by decide, (zat_2 30 rfl rfl)⟩
theorem zg7_11_8 : zP37e [11, 39, 8, 5, 371] := ⟨(RX11, TX11, 8), rfl, by decide, (zat_2 31 rfl rfl)⟩
theorem zg7_11_9 : zP37e [11, 43, 8, 6, 372] := ⟨(RX11, TX11, 8), rfl, by decide, (zat_2 32 rfl rfl)⟩
theorem zg7_11_10 : zP37e [11, 47, 8, 7, 373] := ⟨(RX11, TX11, 8), rfl, by decide, (zat_2 33 rfl rfl)⟩
theorem zg7_11_11 : zP37e [11, 347, 5, 2, 358] := ⟨(RX6, TX6, 3), rfl, by decide, (zat_2 18 rfl rfl)⟩
noncomputable def zg7L_11 : List (List Nat) := [[6, 11, 5, 0, 355], [6, 15, 5, 1, 356], [6, 19, 5, 2, 357], [11, 10, 8, 0, 366], [11, 19, 8, 1, 367], [11, 26, 8, 2, 368], [11, 30, 8, 3, 369], [11, 33, 8, 4, 370], [11, 39, 8, 5, 371], [11, 43, 8, 6, 372], [11, 47, 8, 7, 373], [11, 347, 5, 2, 358]]
theorem zg7A_11 : ∀ e ∈ zg7L_11, zP37e e := List.forall_mem_cons.mpr ⟨zg7_11_0, List.forall_mem_cons.mpr ⟨zg7_11_1, List.forall_mem_cons.mpr ⟨zg7_11_2, List.forall_mem_cons.mpr ⟨zg7_11_3, List.forall_mem_cons.mpr ⟨zg7_11_4, List.forall_mem_cons.mpr ⟨zg7_11_5, List.forall_mem_cons.mpr ⟨zg7_11_6, List.forall_mem_cons.mpr ⟨zg7_11_7, List.forall_mem_cons.mpr ⟨zg7_11_8, List.forall_mem_cons.mpr ⟨zg7_11_9, List.forall_mem_cons.mpr ⟨zg7_11_10, List.forall_mem_cons.mpr ⟨zg7_11_11, fun _ h => absurd h List.not_mem_nil⟩⟩⟩⟩⟩⟩⟩⟩⟩⟩⟩⟩
noncomputable def zg7L_12 : List (List Nat) := []
theorem zg7A_12 : ∀ e ∈ zg7L_12, zP37e e := fun _ h => absurd h List.not_mem_nil
noncomputable def zg7L_13 : List (List Nat) := []
theorem zg7A_13 : ∀ e ∈ zg7L_13, zP37e e := fun _ h => absurd h List.not_mem_nil
noncomputable def zg7L_14 : List (List Nat) := []
theorem zg7A_14 : ∀ e ∈ zg7L_14, zP37e e := fun _ h => absurd h List.not_mem_nil
noncomputable def zg7L_15 : List (List Nat) := []
theorem zg7A_15 : ∀ e ∈ zg7L_15, zP37e e := fun _ h => absurd h List.not_mem_nil
noncomputable def zg7L_16 : List (List Nat) := []
theorem zg7A_16 : ∀ e ∈ zg7L_16, zP37e e := fun _ h => absurd h List.not_mem_nil
noncomputable def zg7L_17 : List (List Nat) := []
theorem zg7A_17 : ∀ e ∈ zg7L_17, zP37e e := fun _ h => absurd h List.not_mem_nil
noncomputable def zg7L_18 : List (List Nat) := []
theorem zg7A_18 : ∀ e ∈ zg7L_18, zP37e e := fun _ h => absurd h List.not_mem_nil
noncomputable def zg7L_19 : List (List Nat) := []
theorem zg7A_19 : ∀ e ∈ zg7L_19, zP37e e := fun _ h => absurd h List.not_mem_nil
noncomputable def zg7L_20 : List (List Nat) := []
theorem zg7A_20 : ∀ e ∈ zg7L_20, zP37e e := fun _ h => absurd h List.not_mem_nil
noncomputable def zg7L_21 : List (List Nat) := []
theorem zg7A_21 : ∀ e ∈ zg7L_21, zP37e e := fun _ h => absurd h List.not_mem_nil
noncomputable def zg7L_22 : List (List Nat) := []
theorem zg7A_22 : ∀ e ∈ zg7L_22, zP37e e := fun _ h => absurd h List.not_mem_nil
noncomputable def zg7L_23 : List (List Nat) := []
theorem zg7A_23 : ∀ e ∈ zg7L_23, zP37e e := fun _ h => absurd h List.not_mem_nil
noncomputable def zg7L_24 : List (List Nat) := []
theorem zg7A_24 : ∀ e ∈ zg7L_24, zP37e e := fun _ h => absurd h List.not_mem_nil
noncomputable def zg7L_25 : List (List Nat) := []
theorem zg7A_25 : ∀ e ∈ zg7L_25, zP37e e := fun _ h => absurd h List.not_mem_nil
noncomputable def zg7L_26 : List (List Nat) := []
theorem zg7A_26 : ∀ e ∈ zg7L_26, zP37e e := fun _ h => absurd h List.not_mem_nil
noncomputable def zg7L_27 : List (List Nat) := []
theorem zg7A_27 : ∀ e ∈ zg7L_27, zP37e e := fun _ h => absurd h List.not_mem_nil
noncomputable def zg7L_28 : List (List Nat) := []
theorem zg7A_28 : ∀ e ∈ zg7L_28, zP37e e := fun _ h => absurd h List.not_mem_nil
noncomputable def zg7L_29 : List (List Nat) := []
theorem zg7A_29 : ∀ e ∈ zg7L_29, zP37e e := fun _ h => absurd h List.not_mem_nil
theorem zg7_30_0 : zP37e [2, 104, 2, 0, 970] := ⟨(RX3, TX3, 6), rfl, by decide, (zat_4 150 rfl rfl)⟩
theorem zg7_30_1 : zP37e [3, 9, 2, 5, 976] := ⟨(RX3, TX3, 6), rfl, by decide, (zat_4 156 rfl rfl)⟩
theorem zg7_30_2 : zP37e [3, 13, 2, 0, 969] := ⟨(RX3, TX3, 6), rfl, by decide, (zat_4 149 rfl rfl)⟩
theorem zg7_30_3 : zP37e [3, 23, 2, 1, 972] := ⟨(RX3, TX3, 6), rfl, by decide, (zat_4 152 rfl rfl)⟩
theorem zg7_30_4 : zP37e [3, 26, 2, 2, 973] := ⟨(RX3, TX3, 6), rfl, by decide, (zat_4 153 rfl rfl)⟩
theorem zg7_30_5 : zP37e [3, 29, 2, 3, 974] := ⟨(RX3, TX3, 6), rfl, by decide, (zat_4 154 rfl rfl)⟩
theorem zg7_30_6 : zP37e [3, 32, 2, 4, 975] := ⟨(RX3, TX3, 6), rfl, by decide, (zat_4 155 rfl rfl)⟩
theorem zg7_30_7 : zP37e [11, 100, 2, 0, 971] := ⟨(RX3, TX3, 6), rfl, by decide, (zat_4 151 rfl rfl)⟩
noncomputable def zg7L_30 : List (List Nat) := [[2, 104, 2, 0, 970], [3, 9, 2, 5, 976], [3, 13, 2, 0, 969], [3, 23, 2, 1, 972], [3, 26, 2, 2, 973], [3, 29, 2, 3, 974], [3, 32, 2, 4, 975], [11, 100, 2, 0, 971]]
theorem zg7A_30 : ∀ e ∈ zg7L_30, zP37e e := List.forall_mem_cons.mpr ⟨zg7_30_0, List.forall_mem_cons.mpr ⟨zg7_30_1, List.forall_mem_cons.mpr ⟨zg7_30_2, List.forall_mem_cons.mpr ⟨zg7_30_3, List.forall_mem_cons.mpr ⟨zg7_30_4, List.forall_mem_cons.mpr ⟨zg7_30_5, List.forall_mem_cons.mpr ⟨zg7_30_6, List.forall_mem_cons.mpr ⟨zg7_30_7, fun _ h => absurd h List.not_mem_nil⟩⟩⟩⟩⟩⟩⟩⟩
noncomputable def zg7L_31 : List (List Nat) := []
theorem zg7A_31 : ∀ e ∈ zg7L_31, zP37e e := fun _ h => absurd h List.not_mem_nil
noncomputable def zg7L_32 : List (List Nat) := []
theorem zg7A_32 : ∀ e ∈ zg7L_32, zP37e e := fun _ h => absurd h List.not_mem_nil
noncomputable def zg7L_33 : List (List Nat) := []
theorem zg7A_33 : ∀ e ∈ zg7L_33, zP37e e := fun _ h => absurd h List.not_mem_nil
noncomputable def zg7L_34 : List (List Nat) := []
theorem zg7A_34 : ∀ e ∈ zg7L_34, zP37e e := fun _ h => absurd h List.not_mem_nil
noncomputable def zg7L_35 : List (List Nat) := []
theorem zg7A_35 : ∀ e ∈ zg7L_35, zP37e e := fun _ h => absurd h List.not_mem_nil
noncomputable def zg7L_36 : List (List Nat) := []
theorem zg7A_36 : ∀ e ∈ zg7L_36, zP37e e := fun _ h => absurd h List.not_mem_nil
noncomputable def zg7L_37 : List (List Nat) := []
theorem zg7A_37 : ∀ e ∈ zg7L_37, zP37e e := fun _ h => absurd h List.not_mem_nil
noncomputable def zg7L_38 : List (List Nat) := []
theorem zg7A_38 : ∀ e ∈ zg7L_38, zP37e e := fun _ h => absurd h List.not_mem_nil
noncomputable def zg7L_39 : List (List Nat) := []
theorem zg7A_39 : ∀ e ∈ zg7L_39, zP37e e := fun _ h => absurd h List.not_mem_nil
noncomputable def zg7L_40 : List (List Nat) := []
theorem zg7A_40 : ∀ e ∈ zg7L_40, zP37e e := fun _ h => absurd h List.not_mem_nil
noncomputable def zg7L_41 : List (List Nat) := []
theorem zg7A_41 : ∀ e ∈ zg7L_41, zP37e e := fun _ h => absurd h List.not_mem_nil
noncomputable def zg7L_42 : List (List Nat) := []
theorem zg7A_42 : ∀ e ∈ zg7L_42, zP37e e := fun _ h => absurd h List.not_mem_nil
noncomputable def zg7L_43 : List (List Nat) := []
theorem zg7A_43 : ∀ e ∈ zg7L_43, zP37e e := fun _ h => absurd h List.not_mem_nil
noncomputable def zg7L_44 : List (List Nat) := []
theorem zg7A_44 : ∀ e ∈ zg7L_44, zP37e e := fun _ h => absurd h List.not_mem_nil
theorem zg7_45_0 : zP37e [12, 3, 9, 0, 1461] := ⟨(RX12, TX12, 23), rfl, by decide, (zat_6 161 rfl rfl)⟩
theorem zg7_45_1 : zP37e [12, 13, 9, 1, 1462] := ⟨(RX12, TX12, 23), rfl, by decide, (zat_6 162 rfl rfl)⟩
theorem zg7_45_2 : zP37e [12, 17, 9, 2, 1463] := ⟨(RX12, TX12, 23), rfl, by decide, (zat_6 163 rfl rfl)⟩
theorem zg7_45_3 : zP37e [12, 20, 9, 3, 1464] := ⟨(RX12, TX12, 23), rfl, by decide, (zat_6 164 rfl rfl)⟩
theorem zg7_45_4 : zP37e [12, 23, 9, 4, 1465] := ⟨(RX12, TX12, 23), rfl, by decide, (zat_6 165 rfl rfl)⟩
theorem zg7_45_5 : zP37e [12, 26, 9, 5, 1466] := ⟨(RX12, TX12, 23), rfl, by decide, (zat_6 166 rfl rfl)⟩
theorem zg7_45_6 : zP37e [12, 29, 9, 8, 1469] := ⟨(RX12, TX12, 23), rfl, by decide, (zat_6 169 rfl rfl)⟩
theorem zg7_45_7 : zP37e [12, 54, 9, 6, 1467] := ⟨(RX12, TX12, 23), rfl, by decide, (zat_6 167 rfl rfl)⟩
theorem zg7_45_8 : zP37e [12, 58, 9, 7, 1468] := ⟨(RX12, TX12, 23), rfl, by decide, (zat_6 168 rfl rfl)⟩
theorem zg7_45_9 : zP37e [12, 94, 9, 9, 1470] := ⟨(RX12, TX12, 23), rfl, by decide, (zat_6 170 rfl rfl)⟩
theorem zg7_45_10 : zP37e [12, 97, 9, 10, 1471] := ⟨(RX12, TX12, 23), rfl, by decide, (zat_6 171 rfl rfl)⟩
noncomputable def zg7L_45 : List (List Nat) := [[12, 3, 9, 0, 1461], [12, 13, 9, 1, 1462], [12, 17, 9, 2, 1463], [12, 20, 9, 3, 1464], [12, 23, 9, 4, 1465], [12, 26, 9, 5, 1466], [12, 29, 9, 8, 1469], [12, 54, 9, 6, 1467], [12, 58, 9, 7, 1468], [12, 94, 9, 9, 1470], [12, 97, 9, 10, 1471]]
theorem zg7A_45 : ∀ e ∈ zg7L_45, zP37e e := List.forall_mem_cons.mpr ⟨zg7_45_0, List.forall_mem_cons.mpr ⟨zg7_45_1, List.forall_mem_cons.mpr ⟨zg7_45_2, List.forall_mem_cons.mpr ⟨zg7_45_3, List.forall_mem_cons.mpr ⟨zg7_45_4, List.forall_mem_cons.mpr ⟨zg7_45_5, List.forall_mem_cons.mpr ⟨zg7_45_6, List.forall_mem_cons.mpr ⟨zg7_45_7, List.forall_mem_cons.mpr ⟨zg7_45_8, List.forall_mem_cons.mpr ⟨zg7_45_9, List.forall_mem_cons.mpr ⟨zg7_45_10, fun _ h => absurd h List.not_mem_nil⟩⟩⟩⟩⟩⟩⟩⟩⟩⟩⟩
theorem zg7_46_0 : zP37e [12, 33, 9, 14, 1475] := ⟨(RX12, TX12, 23), rfl, by decide, (zat_6 175 rfl rfl)⟩
theorem zg7_46_1 : zP37e [12, 36, 9, 15, 1476] := ⟨(RX12, TX12, 23), rfl, by decide, (zat_6 176 rfl rfl)⟩
theorem zg7_46_2 : zP37e [12, 39, 9, 17, 1478] := ⟨(RX12, TX12, 23), rfl, by decide, (zat_6 178 rfl rfl)⟩
theorem zg7_46_3 : zP37e [12, 42, 9, 18, 1479] := ⟨(RX12, TX12, 23), rfl, by decide, (zat_6 179 rfl rfl)⟩
theorem zg7_46_4 : zP37e [12, 45, 9, 19, 1480] := ⟨(RX12, TX12, 23), rfl, by decide, (zat_6 180 rfl rfl)⟩
theorem zg7_46_5 : zP37e [12, 48, 9, 20, 1481] := ⟨(RX12, TX12, 23), rfl, by decide, (zat_6 181 rfl rfl)⟩
theorem zg7_46_6 : zP37e [12, 51, 9, 21, 1482] := ⟨(RX12, TX12, 23), rfl, by decide, (zat_6 182 rfl rfl)⟩
theorem zg7_46_7 : zP37e [12, 100, 9, 11, 1472] := ⟨(RX12, TX12, 23), rfl, by decide, (zat_6 172 rfl rfl)⟩
theorem zg7_46_8 : zP37e [12, 106, 9, 12, 1473] := ⟨(RX12, TX12, 23), rfl, by decide, (zat_6 173 rfl rfl)⟩
theorem zg7_46_9 : zP37e [12, 202, 9, 16, 1477] := ⟨(RX12, TX12, 23), rfl, by decide, (zat_6 177 rfl rfl)⟩
theorem zg7_46_10 : zP37e [12, 225, 9, 13, 1474] := ⟨(RX12, TX12, 23), rfl, by decide, (zat_6 174 rfl rfl)⟩
theorem zg7_46_11 : zP37e [12, 396, 9, 22, 1483] := ⟨(RX12, TX12, 23), rfl, by decide, (zat_6 183 rfl rfl)⟩
noncomputable def zg7L_46 : List (List Nat) := [[12, 33, 9, 14, 1475], [12, 36, 9, 15, 1476], [12, 39, 9, 17, 1478], [12, 42, 9, 18, 1479], [12, 45, 9, 19, 1480], [12, 48, 9, 20, 1481], [12, 51, 9, 21, 1482], [12, 100, 9, 11, 1472], [12, 106, 9, 12, 1473], [12, 202, 9, 16, 1477], [12, 225, 9, 13, 1474], [12, 396, 9, 22, 1483]]
theorem zg7A_46 : ∀ e ∈ zg7L_46, zP37e e := List.forall_mem_cons.mpr ⟨zg7_46_0, List.forall_mem_cons.mpr ⟨zg7_46_1, List.forall_mem_cons.mpr ⟨zg7_46_2, List.forall_mem_cons.mpr ⟨zg7_46_3, List.forall_mem_cons.mpr ⟨zg7_46_4, List.forall_mem_cons.mpr ⟨zg7_46_5, List.forall_mem_cons.mpr ⟨zg7_46_6, List.forall_mem_cons.mpr ⟨zg7_46_7, List.forall_mem_cons.mpr ⟨zg7_46_8, List.forall_mem_cons.mpr ⟨zg7_46_9, List.forall_mem_cons.mpr ⟨zg7_46_10, List.forall_mem_cons.mpr ⟨zg7_46_11, fun _ h => absurd h List.not_mem_nil⟩⟩⟩⟩⟩⟩⟩⟩⟩⟩⟩⟩
noncomputable def zg7G : List (List (List Nat)) := [zg7L_0, zg7L_1, zg7L_2, zg7L_3, zg7L_4, zg7L_5, zg7L_6, zg7L_7, zg7L_8, zg7L_9, zg7L_10, zg7L_11, zg7L_12, zg7L_13, zg7L_14, zg7L_15, zg7L_16, zg7L_17, zg7L_18, zg7L_19, zg7L_20, zg7L_21, zg7L_22, zg7L_23, zg7L_24, zg7L_25, zg7L_26, zg7L_27, zg7L_28, zg7L_29, zg7L_30, zg7L_31, zg7L_32, zg7L_33, zg7L_34, zg7L_35, zg7L_36, zg7L_37, zg7L_38, zg7L_39, zg7L_40, zg7L_41, zg7L_42, zg7L_43, zg7L_44, zg7L_45, zg7L_46]
theorem zg7A : ∀ L ∈ zg7G, ∀ e ∈ L, zP37e e := List.forall_mem_cons.mpr ⟨zg7A_0, List.forall_mem_cons.mpr ⟨zg7A_1, List.forall_mem_cons.mpr ⟨zg7A_2, List.forall_mem_cons.mpr ⟨zg7A_3, List.forall_mem_cons.mpr ⟨zg7A_4, List.forall_mem_cons.mpr ⟨zg7A_5, List.forall_mem_cons.mpr ⟨zg7A_6, List.forall_mem_cons.mpr ⟨zg7A_7, List.forall_mem_cons.mpr ⟨zg7A_8, List.forall_mem_cons.mpr ⟨zg7A_9, List.forall_mem_cons.mpr ⟨zg7A_10, List.forall_mem_cons.mpr ⟨zg7A_11, List.forall_mem_cons.mpr ⟨zg7A_12, List.forall_mem_cons.mpr ⟨zg7A_13, List.forall_mem_cons.mpr ⟨zg7A_14, List.forall_mem_cons.mpr ⟨zg7A_15, List.forall_mem_cons.mpr ⟨zg7A_16, List.forall_mem_cons.mpr ⟨zg7A_17, List.forall_mem_cons.mpr ⟨zg7A_18, List.forall_mem_cons.mpr ⟨zg7A_19, List.forall_mem_cons.mpr ⟨zg7A_20, List.forall_mem_cons.mpr ⟨zg7A_21, List.forall_mem_cons.mpr ⟨zg7A_22, List.forall_mem_cons.mpr ⟨zg7A_23, List.forall_mem_cons.mpr ⟨zg7A_24, List.forall_mem_cons.mpr ⟨zg7A_25, List.forall_mem_cons.mpr ⟨zg7A_26, List.forall_mem_cons.mpr ⟨zg7A_27, List.forall_mem_cons.mpr ⟨zg7A_28, List.forall_mem_cons.mpr ⟨zg7A_29, List.forall_mem_cons.mpr ⟨zg7A_30, List.forall_mem_cons.mpr ⟨zg7A_31, List.forall_mem_cons.mpr ⟨zg7A_32, List.forall_mem_cons.mpr ⟨zg7A_33, List.forall_mem_cons.mpr ⟨zg7A_34, List.forall_mem_cons.mpr ⟨zg7A_35, List.forall_mem_cons.mpr ⟨zg7A_36, List.forall_mem_cons.mpr ⟨zg7A_37, List.forall_mem_cons.mpr ⟨zg7A_38, List.forall_mem_cons.mpr ⟨zg7A_39, List.forall_mem_cons.mpr ⟨zg7A_40, List.forall_mem_cons.mpr ⟨zg7A_41, List.forall_mem_cons.mpr ⟨zg7A_42, List.forall_mem_cons.mpr ⟨zg7A_43, List.forall_mem_cons.mpr ⟨zg7A_44, List.forall_mem_cons.mpr ⟨zg7A_45, List.forall_mem_cons.mpr ⟨zg7A_46, fun _ h => absurd h List.not_mem_nil⟩⟩⟩⟩⟩⟩⟩⟩⟩⟩⟩⟩⟩⟩⟩⟩⟩⟩⟩⟩⟩⟩⟩⟩⟩⟩⟩⟩⟩⟩⟩⟩⟩⟩⟩⟩⟩⟩⟩⟩⟩⟩⟩⟩⟩⟩⟩
theorem zkd_0 : z_kind ((0 : Nat) : Int) (parseFieldDescriptor "I") = true := by decide +kernel
theorem zkd_1 : z_kind ((2 : Nat) : Int) (parseFieldDescriptor "LClockShares$Law;") = true := by decide +kernel
theorem zkd_2 : z_kind ((1 : Nat) : Int) (parseFieldDescriptor "Z") = true := by decide +kernel
noncomputable def zg8L_0 : List (List Nat) := []
theorem zg8A_0 : ∀ e ∈ zg8L_0, zP38e e := fun _ h => absurd h List.not_mem_nil
noncomputable def zg8L_1 : List (List Nat) := []
theorem zg8A_1 : ∀ e ∈ zg8L_1, zP38e e := fun _ h => absurd h List.not_mem_nil
noncomputable def zg8L_2 : List (List Nat) := []
theorem zg8A_2 : ∀ e ∈ zg8L_2, zP38e e := fun _ h => absurd h List.not_mem_nil
noncomputable def zg8L_3 : List (List Nat) := []
theorem zg8A_3 : ∀ e ∈ zg8L_3, zP38e e := fun _ h => absurd h List.not_mem_nil
theorem zg8_4_0 : zP38e [8, 15, 6, 1, 145, 0] := ⟨(RX8, TX8, 4), rfl, by decide, (zat_1 45 rfl rfl), zkd_0, rfl⟩
theorem zg8_4_1 : zP38e [8, 19, 6, 2, 147, 0] := ⟨(RX8, TX8, 4), rfl, by decide, (zat_1 47 rfl rfl), zkd_0, rfl⟩
theorem zg8_4_2 : zP38e [8, 22, 6, 3, 148, 0] := ⟨(RX8, TX8, 4), rfl, by decide, (zat_1 48 rfl rfl), zkd_0, rfl⟩
theorem zg8_4_3 : zP38e [11, 51, 6, 1, 146, 0] := ⟨(RX8, TX8, 4), rfl, by decide, (zat_1 46 rfl rfl), zkd_0, rfl⟩
noncomputable def zg8L_4 : List (List Nat) := [[8, 15, 6, 1, 145, 0], [8, 19, 6, 2, 147, 0], [8, 22, 6, 3, 148, 0], [11, 51, 6, 1, 146, 0]]
theorem zg8A_4 : ∀ e ∈ zg8L_4, zP38e e := List.forall_mem_cons.mpr ⟨zg8_4_0, List.forall_mem_cons.mpr ⟨zg8_4_1, List.forall_mem_cons.mpr ⟨zg8_4_2, List.forall_mem_cons.mpr ⟨zg8_4_3, fun _ h => absurd h List.not_mem_nil⟩⟩⟩⟩
theorem zg8_5_0 : zP38e [4, 24, 3, 4, 169, 0] := ⟨(RX4, TX4, 6), rfl, by decide, (zat_1 69 rfl rfl), zkd_0, rfl⟩
theorem zg8_5_1 : zP38e [4, 28, 3, 5, 170, 0] := ⟨(RX4, TX4, 6), rfl, by decide, (zat_1 70 rfl rfl), zkd_0, rfl⟩
noncomputable def zg8L_5 : List (List Nat) := [[4, 24, 3, 4, 169, 0], [4, 28, 3, 5, 170, 0]]
theorem zg8A_5 : ∀ e ∈ zg8L_5, zP38e e := List.forall_mem_cons.mpr ⟨zg8_5_0, List.forall_mem_cons.mpr ⟨zg8_5_1, fun _ h => absurd h List.not_mem_nil⟩⟩
theorem zg8_6_0 : zP38e [1, 24, 0, 4, 207, 0] := ⟨(RX1, TX1, 5), rfl, by decide, (zat_1 107 rfl rfl), zkd_0, rfl⟩
noncomputable def zg8L_6 : List (List Nat) := [[1, 24, 0, 4, 207, 0]]
theorem zg8A_6 : ∀ e ∈ zg8L_6, zP38e e := List.forall_mem_cons.mpr ⟨zg8_6_0, fun _ h => absurd h List.not_mem_nil⟩
theorem zg8_7_0 : zP38e [9, 18, 7, 2, 235, 0] := ⟨(RX9, TX9, 4), rfl, by decide, (zat_1 135 rfl rfl), zkd_0, rfl⟩
theorem zg8_7_1 : zP38e [9, 22, 7, 3, 237, 0] := ⟨(RX9, TX9, 4), rfl, by decide, (zat_1 137 rfl rfl), zkd_0, rfl⟩
noncomputable def zg8L_7 : List (List Nat) := [[9, 18, 7, 2, 235, 0], [9, 22, 7, 3, 237, 0]]
theorem zg8A_7 : ∀ e ∈ zg8L_7, zP38e e := List.forall_mem_cons.mpr ⟨zg8_7_0, List.forall_mem_cons.mpr ⟨zg8_7_1, fun _ h => absurd h List.not_mem_nil⟩⟩
theorem zg8_8_0 : zP38e [0, 114, 1, 7, 287, 0] := ⟨(RX2, TX2, 18), rfl, by decide, (zat_1 187 rfl rfl), zkd_0, rfl⟩
theorem zg8_8_1 : zP38e [2, 41, 1, 5, 282, 2] := ⟨(RX2, TX2, 18), rfl, by decide, (zat_1 182 rfl rfl), zkd_1, rfl⟩
theorem zg8_8_2 : zP38e [2, 45, 1, 6, 284, 0] := ⟨(RX2, TX2, 18), rfl, by decide, (zat_1 184 rfl rfl), zkd_0, rfl⟩
theorem zg8_8_3 : zP38e [2, 49, 1, 7, 286, 0] := ⟨(RX2, TX2, 18), rfl, by decide, (zat_1 186 rfl rfl), zkd_0, rfl⟩
theorem zg8_8_4 : zP38e [5, 15, 4, 1, 256, 0] := ⟨(RX5, TX5, 3), rfl, by decide, (zat_1 156 rfl rfl), zkd_0, rfl⟩
theorem zg8_8_5 : zP38e [5, 19, 4, 2, 257, 0] := ⟨(RX5, TX5, 3), rfl, by decide, (zat_1 157 rfl rfl), zkd_0, rfl⟩
theorem zg8_8_6 : zP38e [11, 75, 1, 6, 285, 0] := ⟨(RX2, TX2, 18), rfl, by decide, (zat_1 185 rfl rfl), zkd_0, rfl⟩
theorem zg8_8_7 : zP38e [11, 96, 1, 5, 283, 2] := ⟨(RX2, TX2, 18), rfl, by decide, (zat_1 183 rfl rfl), zkd_1, rfl⟩
noncomputable def zg8L_8 : List (List Nat) := [[0, 114, 1, 7, 287, 0], [2, 41, 1, 5, 282, 2], [2, 45, 1, 6, 284, 0], [2, 49, 1, 7, 286, 0], [5, 15, 4, 1, 256, 0], [5, 19, 4, 2, 257, 0], [11, 75, 1, 6, 285, 0], [11, 96, 1, 5, 283, 2]]
theorem zg8A_8 : ∀ e ∈ zg8L_8, zP38e e := List.forall_mem_cons.mpr ⟨zg8_8_0, List.forall_mem_cons.mpr ⟨zg8_8_1, List.forall_mem_cons.mpr ⟨zg8_8_2, List.forall_mem_cons.mpr ⟨zg8_8_3, List.forall_mem_cons.mpr ⟨zg8_8_4, List.forall_mem_cons.mpr ⟨zg8_8_5, List.forall_mem_cons.mpr ⟨zg8_8_6, List.forall_mem_cons.mpr ⟨zg8_8_7, fun _ h => absurd h List.not_mem_nil⟩⟩⟩⟩⟩⟩⟩⟩
theorem zg8_9_0 : zP38e [0, 97, 1, 13, 298, 0] := ⟨(RX2, TX2, 18), rfl, by decide, (zat_1 198 rfl rfl), zkd_0, rfl⟩
theorem zg8_9_1 : zP38e [0, 102, 1, 14, 300, 0] := ⟨(RX2, TX2, 18), rfl, by decide, (zat_1 200 rfl rfl), zkd_0, rfl⟩
theorem zg8_9_2 : zP38e [0, 106, 1, 15, 302, 0] := ⟨(RX2, TX2, 18), rfl, by decide, (zat_1 202 rfl rfl), zkd_0, rfl⟩
theorem zg8_9_3 : zP38e [0, 110, 1, 16, 306, 0] := ⟨(RX2, TX2, 18), rfl, by decide, (zat_1 206 rfl rfl), zkd_0, rfl⟩
theorem zg8_9_4 : zP38e [2, 52, 1, 8, 289, 0] := ⟨(RX2, TX2, 18), rfl, by decide, (zat_1 189 rfl rfl), zkd_0, rfl⟩
theorem zg8_9_5 : zP38e [2, 55, 1, 9, 290, 0] := ⟨(RX2, TX2, 18), rfl, by decide, (zat_1 190 rfl rfl), zkd_0, rfl⟩
theorem zg8_9_6 : zP38e [2, 58, 1, 10, 292, 0] := ⟨(RX2, TX2, 18), rfl, by decide, (zat_1 192 rfl rfl), zkd_0, rfl⟩
theorem zg8_9_7 : zP38e [2, 61, 1, 11, 294, 0] := ⟨(RX2, TX2, 18), rfl, by decide, (zat_1 194 rfl rfl), zkd_0, rfl⟩
theorem zg8_9_8 : zP38e [2, 64, 1, 12, 296, 0] := ⟨(RX2, TX2, 18), rfl, by decide, (zat_1 196 rfl rfl), zkd_0, rfl⟩
theorem zg8_9_9 : zP38e [2, 67, 1, 13, 297, 0] := ⟨(RX2, TX2, 18), rfl, by decide, (zat_1 197 rfl rfl), zkd_0, rfl⟩
theorem zg8_9_10 : zP38e [2, 70, 1, 14, 299, 0] := ⟨(RX2, TX2, 18), rfl, by decide, (zat_1 199 rfl rfl), zkd_0, rfl⟩
theorem zg8_9_11 : zP38e [2, 73, 1, 15, 301, 0] := ⟨(RX2, TX2, 18), rfl, by decide, (zat_1 201 rfl rfl), zkd_0, rfl⟩
theorem zg8_9_12 : zP38e [2, 76, 1, 16, 305, 0] := ⟨(RX2, TX2, 18), rfl, by decide, (zat_1 205 rfl rfl), zkd_0, rfl⟩
theorem zg8_9_13 : zP38e [2, 79, 1, 17, 307, 0] := ⟨(RX2, TX2, 18), rfl, by decide, (zat_1 207 rfl rfl), zkd_0, rfl⟩
theorem zg8_9_14 : zP38e [11, 216, 1, 11, 295, 0] := ⟨(RX2, TX2, 18), rfl, by decide, (zat_1 195 rfl rfl), zkd_0, rfl⟩
theorem zg8_9_15 : zP38e [11, 219, 1, 10, 293, 0] := ⟨(RX2, TX2, 18), rfl, by decide, (zat_1 193 rfl rfl), zkd_0, rfl⟩
theorem zg8_9_16 : zP38e [11, 298, 1, 17, 308, 0] := ⟨(RX2, TX2, 18), rfl, by decide, (zat_1 208 rfl rfl), zkd_0, rfl⟩
noncomputable def zg8L_9 : List (List Nat) := [[0, 97, 1, 13, 298, 0], [0, 102, 1, 14, 300, 0], [0, 106, 1, 15, 302, 0], [0, 110, 1, 16, 306, 0], [2, 52, 1, 8, 289, 0], [2, 55, 1, 9, 290, 0], [2, 58, 1, 10, 292, 0], [2, 61, 1, 11, 294, 0], [2, 64, 1, 12, 296, 0], [2, 67, 1, 13, 297, 0], [2, 70, 1, 14, 299, 0], [2, 73, 1, 15, 301, 0], [2, 76, 1, 16, 305, 0], [2, 79, 1, 17, 307, 0], [11, 216, 1, 11, 295, 0], [11, 219, 1, 10, 293, 0], [11, 298, 1, 17, 308, 0]]
theorem zg8A_9 : ∀ e ∈ zg8L_9, zP38e e := List.forall_mem_cons.mpr ⟨zg8_9_0, List.forall_mem_cons.mpr ⟨zg8_9_1, List.forall_mem_cons.mpr ⟨zg8_9_2, List.forall_mem_cons.mpr ⟨zg8_9_3, List.forall_mem_cons.mpr ⟨zg8_9_4, List.forall_mem_cons.mpr ⟨zg8_9_5, List.forall_mem_cons.mpr ⟨zg8_9_6, List.forall_mem_cons.mpr ⟨zg8_9_7, List.forall_mem_cons.mpr ⟨zg8_9_8, List.forall_mem_cons.mpr ⟨zg8_9_9, List.forall_mem_cons.mpr ⟨zg8_9_10, List.forall_mem_cons.mpr ⟨zg8_9_11, List.forall_mem_cons.mpr ⟨zg8_9_12, List.forall_mem_cons.mpr ⟨zg8_9_13, List.forall_mem_cons.mpr ⟨zg8_9_14, List.forall_mem_cons.mpr ⟨zg8_9_15, List.forall_mem_cons.mpr ⟨zg8_9_16, fun _ h => absurd h List.not_mem_nil⟩⟩⟩⟩⟩⟩⟩⟩⟩⟩⟩⟩⟩⟩⟩⟩⟩
noncomputable def zg8L_10 : List (List Nat) := []
theorem zg8A_10 : ∀ e ∈ zg8L_10, zP38e e := fun _ h => absurd h List.not_mem_nil
theorem zg8_11_0 : zP38e [6, 15, 5, 1, 356, 0] := ⟨(RX6, TX6, 3), rfl, by decide, (zat_2 16 rfl rfl), zkd_0, rfl⟩
theorem zg8_11_1 : zP38e [6, 19, 5, 2, 357, 0] := ⟨(RX6, TX6, 3), rfl, by decide, (zat_2 17 rfl rfl), zkd_0, rfl⟩
theorem zg8_11_2 : zP38e [11, 43, 8, 6, 372, 1] := ⟨(RX11, TX11, 8), rfl, by decide, (zat_2 32 rfl rfl), zkd_2, rfl⟩
theorem zg8_11_3 : zP38e [11, 47, 8, 7, 373, 0] := ⟨(RX11, TX11, 8), rfl, by decide, (zat_2 33 rfl rfl), zkd_0, rfl⟩
noncomputable def zg8L_11 : List (List Nat) := [[6, 15, 5, 1, 356, 0], [6, 19, 5, 2, 357, 0], [11, 43, 8, 6, 372, 1], [11, 47, 8, 7, 373, 0]]
theorem zg8A_11 : ∀ e ∈ zg8L_11, zP38e e := List.forall_mem_cons.mpr ⟨zg8_11_0, List.forall_mem_cons.mpr ⟨zg8_11_1, List.forall_mem_cons.mpr ⟨zg8_11_2, List.forall_mem_cons.mpr ⟨zg8_11_3, fun _ h => absurd h List.not_mem_nil⟩⟩⟩⟩
noncomputable def zg8L_12 : List (List Nat) := []
theorem zg8A_12 : ∀ e ∈ zg8L_12, zP38e e := fun _ h => absurd h List.not_mem_nil
noncomputable def zg8L_13 : List (List Nat) := []
theorem zg8A_13 : ∀ e ∈ zg8L_13, zP38e e := fun _ h => absurd h List.not_mem_nil
noncomputable def zg8L_14 : List (List Nat) := []
theorem zg8A_14 : ∀ e ∈ zg8L_14, zP38e e := fun _ h => absurd h List.not_mem_nil
noncomputable def zg8L_15 : List (List Nat) := []
theorem zg8A_15 : ∀ e ∈ zg8L_15, zP38e e := fun _ h => absurd h List.not_mem_nil
noncomputable def zg8L_16 : List (List Nat) := []
theorem zg8A_16 : ∀ e ∈ zg8L_16, zP38e e := fun _ h => absurd h List.not_mem_nil
noncomputable def zg8L_17 : List (List Nat) := []
theorem zg8A_17 : ∀ e ∈ zg8L_17, zP38e e := fun _ h => absurd h List.not_mem_nil
noncomputable def zg8L_18 : List (List Nat) := []
theorem zg8A_18 : ∀ e ∈ zg8L_18, zP38e e := fun _ h => absurd h List.not_mem_nil
noncomputable def zg8L_19 : List (List Nat) := []
theorem zg8A_19 : ∀ e ∈ zg8L_19, zP38e e := fun _ h => absurd h List.not_mem_nil
noncomputable def zg8L_20 : List (List Nat) := []
theorem zg8A_20 : ∀ e ∈ zg8L_20, zP38e e := fun _ h => absurd h List.not_mem_nil
noncomputable def zg8L_21 : List (List Nat) := []
theorem zg8A_21 : ∀ e ∈ zg8L_21, zP38e e := fun _ h => absurd h List.not_mem_nil
noncomputable def zg8L_22 : List (List Nat) := []
theorem zg8A_22 : ∀ e ∈ zg8L_22, zP38e e := fun _ h => absurd h List.not_mem_nil
noncomputable def zg8L_23 : List (List Nat) := []
theorem zg8A_23 : ∀ e ∈ zg8L_23, zP38e e := fun _ h => absurd h List.not_mem_nil
noncomputable def zg8L_24 : List (List Nat) := []
theorem zg8A_24 : ∀ e ∈ zg8L_24, zP38e e := fun _ h => absurd h List.not_mem_nil
noncomputable def zg8L_25 : List (List Nat) := []
theorem zg8A_25 : ∀ e ∈ zg8L_25, zP38e e := fun _ h => absurd h List.not_mem_nil
noncomputable def zg8L_26 : List (List Nat) := []
theorem zg8A_26 : ∀ e ∈ zg8L_26, zP38e e := fun _ h => absurd h List.not_mem_nil
noncomputable def zg8L_27 : List (List Nat) := []
theorem zg8A_27 : ∀ e ∈ zg8L_27, zP38e e := fun _ h => absurd h List.not_mem_nil
noncomputable def zg8L_28 : List (List Nat) := []
theorem zg8A_28 : ∀ e ∈ zg8L_28, zP38e e := fun _ h => absurd h List.not_mem_nil
noncomputable def zg8L_29 : List (List Nat) := []
theorem zg8A_29 : ∀ e ∈ zg8L_29, zP38e e := fun _ h => absurd h List.not_mem_nil
noncomputable def zg8L_30 : List (List Nat) := []
theorem zg8A_30 : ∀ e ∈ zg8L_30, zP38e e := fun _ h => absurd h List.not_mem_nil
noncomputable def zg8L_31 : List (List Nat) := []
theorem zg8A_31 : ∀ e ∈ zg8L_31, zP38e e := fun _ h => absurd h List.not_mem_nil
noncomputable def zg8L_32 : List (List Nat) := []
theorem zg8A_32 : ∀ e ∈ zg8L_32, zP38e e := fun _ h => absurd h List.not_mem_nil
noncomputable def zg8L_33 : List (List Nat) := []
theorem zg8A_33 : ∀ e ∈ zg8L_33, zP38e e := fun _ h => absurd h List.not_mem_nil
noncomputable def zg8L_34 : List (List Nat) := []
theorem zg8A_34 : ∀ e ∈ zg8L_34, zP38e e := fun _ h => absurd h List.not_mem_nil
noncomputable def zg8L_35 : List (List Nat) := []
theorem zg8A_35 : ∀ e ∈ zg8L_35, zP38e e := fun _ h => absurd h List.not_mem_nil
noncomputable def zg8L_36 : List (List Nat) := []
theorem zg8A_36 : ∀ e ∈ zg8L_36, zP38e e := fun _ h => absurd h List.not_mem_nil
noncomputable def zg8L_37 : List (List Nat) := []
theorem zg8A_37 : ∀ e ∈ zg8L_37, zP38e e := fun _ h => absurd h List.not_mem_nil
noncomputable def zg8L_38 : List (List Nat) := []
theorem zg8A_38 : ∀ e ∈ zg8L_38, zP38e e := fun _ h => absurd h List.not_mem_nil
noncomputable def zg8L_39 : List (List Nat) := []
theorem zg8A_39 : ∀ e ∈ zg8L_39, zP38e e := fun _ h => absurd h List.not_mem_nil
noncomputable def zg8L_40 : List (List Nat) := []
theorem zg8A_40 : ∀ e ∈ zg8L_40, zP38e e := fun _ h => absurd h List.not_mem_nil
noncomputable def zg8L_41 : List (List Nat) := []
theorem zg8A_41 : ∀ e ∈ zg8L_41, zP38e e := fun _ h => absurd h List.not_mem_nil
noncomputable def zg8L_42 : List (List Nat) := []
theorem zg8A_42 : ∀ e ∈ zg8L_42, zP38e e := fun _ h => absurd h List.not_mem_nil
noncomputable def zg8L_43 : List (List Nat) := []
theorem zg8A_43 : ∀ e ∈ zg8L_43, zP38e e := fun _ h => absurd h List.not_mem_nil
noncomputable def zg8L_44 : List (List Nat) := []
theorem zg8A_44 : ∀ e ∈ zg8L_44, zP38e e := fun _ h => absurd h List.not_mem_nil
theorem zg8_45_0 : zP38e [12, 3, 9, 0, 1461, 0] := ⟨(RX12, TX12, 23), rfl, by decide, (zat_6 161 rfl rfl), zkd_0, rfl⟩
theorem zg8_45_1 : zP38e [12, 54, 9, 6, 1467, 1] := ⟨(RX12, TX12, 23), rfl, by decide, (zat_6 167 rfl rfl), zkd_2, rfl⟩
theorem zg8_45_2 : zP38e [12, 58, 9, 7, 1468, 0] := ⟨(RX12, TX12, 23), rfl, by decide, (zat_6 168 rfl rfl), zkd_0, rfl⟩
theorem zg8_45_3 : zP38e [12, 94, 9, 9, 1470, 0] := ⟨(RX12, TX12, 23), rfl, by decide, (zat_6 170 rfl rfl), zkd_0, rfl⟩
theorem zg8_45_4 : zP38e [12, 97, 9, 10, 1471, 0] := ⟨(RX12, TX12, 23), rfl, by decide, (zat_6 171 rfl rfl), zkd_0, rfl⟩
noncomputable def zg8L_45 : List (List Nat) := [[12, 3, 9, 0, 1461, 0], [12, 54, 9, 6, 1467, 1], [12, 58, 9, 7, 1468, 0], [12, 94, 9, 9, 1470, 0], [12, 97, 9, 10, 1471, 0]]
theorem zg8A_45 : ∀ e ∈ zg8L_45, zP38e e := List.forall_mem_cons.mpr ⟨zg8_45_0, List.forall_mem_cons.mpr ⟨zg8_45_1, List.forall_mem_cons.mpr ⟨zg8_45_2, List.forall_mem_cons.mpr ⟨zg8_45_3, List.forall_mem_cons.mpr ⟨zg8_45_4, fun _ h => absurd h List.not_mem_nil⟩⟩⟩⟩⟩
theorem zg8_46_0 : zP38e [12, 33, 9, 14, 1475, 0] := ⟨(RX12, TX12, 23), rfl, by decide, (zat_6 175 rfl rfl), zkd_0, rfl⟩
theorem zg8_46_1 : zP38e [12, 100, 9, 11, 1472, 0] := ⟨(RX12, TX12, 23), rfl, by decide, (zat_6 172 rfl rfl), zkd_0, rfl⟩
theorem zg8_46_2 : zP38e [12, 106, 9, 12, 1473, 0] := ⟨(RX12, TX12, 23), rfl, by decide, (zat_6 173 rfl rfl), zkd_0, rfl⟩
theorem zg8_46_3 : zP38e [12, 202, 9, 16, 1477, 0] := ⟨(RX12, TX12, 23), rfl, by decide, (zat_6 177 rfl rfl), zkd_0, rfl⟩
theorem zg8_46_4 : zP38e [12, 225, 9, 13, 1474, 0] := ⟨(RX12, TX12, 23), rfl, by decide, (zat_6 174 rfl rfl), zkd_0, rfl⟩
theorem zg8_46_5 : zP38e [12, 396, 9, 22, 1483, 0] := ⟨(RX12, TX12, 23), rfl, by decide, (zat_6 183 rfl rfl), zkd_0, rfl⟩
noncomputable def zg8L_46 : List (List Nat) := [[12, 33, 9, 14, 1475, 0], [12, 100, 9, 11, 1472, 0], [12, 106, 9, 12, 1473, 0], [12, 202, 9, 16, 1477, 0], [12, 225, 9, 13, 1474, 0], [12, 396, 9, 22, 1483, 0]]
theorem zg8A_46 : ∀ e ∈ zg8L_46, zP38e e := List.forall_mem_cons.mpr ⟨zg8_46_0, List.forall_mem_cons.mpr ⟨zg8_46_1, List.forall_mem_cons.mpr ⟨zg8_46_2, List.forall_mem_cons.mpr ⟨zg8_46_3, List.forall_mem_cons.mpr ⟨zg8_46_4, List.forall_mem_cons.mpr ⟨zg8_46_5, fun _ h => absurd h List.not_mem_nil⟩⟩⟩⟩⟩⟩
noncomputable def zg8G : List (List (List Nat)) := [zg8L_0, zg8L_1, zg8L_2, zg8L_3, zg8L_4, zg8L_5, zg8L_6, zg8L_7, zg8L_8, zg8L_9, zg8L_10, zg8L_11, zg8L_12, zg8L_13, zg8L_14, zg8L_15, zg8L_16, zg8L_17, zg8L_18, zg8L_19, zg8L_20, zg8L_21, zg8L_22, zg8L_23, zg8L_24, zg8L_25, zg8L_26, zg8L_27, zg8L_28, zg8L_29, zg8L_30, zg8L_31, zg8L_32, zg8L_33, zg8L_34, zg8L_35, zg8L_36, zg8L_37, zg8L_38, zg8L_39, zg8L_40, zg8L_41, zg8L_42, zg8L_43, zg8L_44, zg8L_45, zg8L_46]
theorem zg8A : ∀ L ∈ zg8G, ∀ e ∈ L, zP38e e := List.forall_mem_cons.mpr ⟨zg8A_0, List.forall_mem_cons.mpr ⟨zg8A_1, List.forall_mem_cons.mpr ⟨zg8A_2, List.forall_mem_cons.mpr ⟨zg8A_3, List.forall_mem_cons.mpr ⟨zg8A_4, List.forall_mem_cons.mpr ⟨zg8A_5, List.forall_mem_cons.mpr ⟨zg8A_6, List.forall_mem_cons.mpr ⟨zg8A_7, List.forall_mem_cons.mpr ⟨zg8A_8, List.forall_mem_cons.mpr ⟨zg8A_9, List.forall_mem_cons.mpr ⟨zg8A_10, List.forall_mem_cons.mpr ⟨zg8A_11, List.forall_mem_cons.mpr ⟨zg8A_12, List.forall_mem_cons.mpr ⟨zg8A_13, List.forall_mem_cons.mpr ⟨zg8A_14, List.forall_mem_cons.mpr ⟨zg8A_15, List.forall_mem_cons.mpr ⟨zg8A_16, List.forall_mem_cons.mpr ⟨zg8A_17, List.forall_mem_cons.mpr ⟨zg8A_18, List.forall_mem_cons.mpr ⟨zg8A_19, List.forall_mem_cons.mpr ⟨zg8A_20, List.forall_mem_cons.mpr ⟨zg8A_21, List.forall_mem_cons.mpr ⟨zg8A_22, List.forall_mem_cons.mpr ⟨zg8A_23, List.forall_mem_cons.mpr ⟨zg8A_24, List.forall_mem_cons.mpr ⟨zg8A_25, List.forall_mem_cons.mpr ⟨zg8A_26, List.forall_mem_cons.mpr ⟨zg8A_27, List.forall_mem_cons.mpr ⟨zg8A_28, List.forall_mem_cons.mpr ⟨zg8A_29, List.forall_mem_cons.mpr ⟨zg8A_30, List.forall_mem_cons.mpr ⟨zg8A_31, List.forall_mem_cons.mpr ⟨zg8A_32, List.forall_mem_cons.mpr ⟨zg8A_33, List.forall_mem_cons.mpr ⟨zg8A_34, List.forall_mem_cons.mpr ⟨zg8A_35, List.forall_mem_cons.mpr ⟨zg8A_36, List.forall_mem_cons.mpr ⟨zg8A_37, List.forall_mem_cons.mpr ⟨zg8A_38, List.forall_mem_cons.mpr ⟨zg8A_39, List.forall_mem_cons.mpr ⟨zg8A_40, List.forall_mem_cons.mpr ⟨zg8A_41, List.forall_mem_cons.mpr ⟨zg8A_42, List.forall_mem_cons.mpr ⟨zg8A_43, List.forall_mem_cons.mpr ⟨zg8A_44, List.forall_mem_cons.mpr ⟨zg8A_45, List.forall_mem_cons.mpr ⟨zg8A_46, fun _ h => absurd h List.not_mem_nil⟩⟩⟩⟩⟩⟩⟩⟩⟩⟩⟩⟩⟩⟩⟩⟩⟩⟩⟩⟩⟩⟩⟩⟩⟩⟩⟩⟩⟩⟩⟩⟩⟩⟩⟩⟩⟩⟩⟩⟩⟩⟩⟩⟩⟩⟩⟩
