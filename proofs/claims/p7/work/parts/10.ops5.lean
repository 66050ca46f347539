/-! texts, constructors of Object, the JDK's small functions -/
noncomputable def z_cat (st : List Value) : Nat := (st.map fun v => v.category).sum
theorem z_cat_tr (ad : Nat → Nat) (st : List Value) : ((st.map (z_tr ad)).map fun v => v.category).sum = z_cat st := by
  unfold z_cat
  rw [List.map_map]
  congr 1
  exact List.map_congr_left fun v _ => z_tr_cat ad v
theorem z_strs_len : ∀ q ∈ z_strs, q.2.2.2.length < 256 := by decide +kernel
noncomputable def zo_ldcs : zNop := fun _ _ a _ _ k l st h => if a < z_strs.length then zn (k + 1) l (.ref (zB + a) :: st) h else none
noncomputable def zk_ldcs : zCk := fun M a _ _ pc ins len _ nx k => match ins with
  | .ldc idx => (match z_strs[a]? with | some q => decide (q.1 = M.1) && decide (q.2.1 = idx) | none => false) && decide (len = 2) && decide (nx (k + 1) = pc + 2)
  | _ => false
theorem zs_ldcs : z_Sn zo_ldcs zk_ldcs := by
  intro p l e R s m args below meth c Z D tc adK adV sb sx M nx ad0 n0 C S d Q a b ci k ins len pl hF hK hA hR hd hck lo st h k' lo' st' h' x y hop kc ks hW
  unfold zo_ldcs at hop
  by_cases hc : a < z_strs.length
  case neg => rw [if_neg hc] at hop; cases hop
  rw [if_pos hc] at hop
  obtain ⟨rfl, rfl, rfl, rfl, rfl, rfl⟩ := zn_inj hop
  obtain ⟨hx, hb, hml, hr, hown, hts, -⟩ := hF
  intro ad H locs ls cells slots q1 q2 q3 q4 q5 q6 q7 q8 q9
  have kk := hW ad H locs ls cells slots q1 q2 q3 q4 q5 q6 (z_okC (fun i hi => by cases hi; exact Or.inr (Nat.le_add_right _ _)) q7) q8 q9
  unfold zk_ldcs at hck
  split at hck
  case h_2 => cases hck
  next idx =>
  simp only [Bool.and_eq_true, decide_eq_true_eq] at hck
  obtain ⟨⟨hck, rfl⟩, hn⟩ := hck
  split at hck
  case h_2 => cases hck
  next q hq =>
  simp only [Bool.and_eq_true, decide_eq_true_eq] at hck
  obtain ⟨h1, rfl⟩ := hck
  rw [hn, List.map_cons, z_tr_ref, q2 _ (Or.inr (Nat.le_add_right _ _)), hA.1 a hc] at kk
  have hR2 := (hK.2.2.1 a q hq).1
  rw [h1] at hR2
  exact va_ldcS hx hb hown hR2 hd kk
noncomputable def zo_slength : zNop := fun _ d _ _ _ k l st h => match st with
  | .ref i :: st => if zB ≤ i ∧ 6 ≤ d ∧ z_cat st ≤ 8 then (match z_strs[i - zB]? with | some q => zn (k + 1) l (.int (Int32.ofNat q.2.2.2.length) :: st) h | none => none) else none
  | _ => none
noncomputable def zk_slength : zCk := fun M _ _ _ pc ins len pl nx k => match ins with
  | .invokevirtual idx => z_w (.methodLink M.1 idx yJ0_length_8abf5) (pl.getD 0 0) && decide (len = 3) && decide (nx (k + 1) = pc + 3)
  | _ => false
theorem z_ad_str {adK : Nat → Nat} {sb : Nat} {ad0 ad : Nat → Nat} {n0 i : Nat} {q : String × Nat × String × List Int32} (hA : z_A0 adK sb ad0) (q2 : z_ag n0 ad0 ad) (hi : zB ≤ i) (hq : z_strs[i - zB]? = some q) : ad i = adK (i - zB) := by
  have hl := (List.getElem?_eq_some_iff.mp hq).1
  rw [q2 i (Or.inr hi), ← hA.1 _ hl, Nat.add_sub_of_le hi]
theorem zs_slength : z_Sn zo_slength zk_slength := by
  intro p l e R s m args below meth c Z D tc adK adV sb sx M nx ad0 n0 C S d Q a b ci k ins len pl hF hK hA hR hd hck lo st h k' lo' st' h' x y hop kc ks hW
  unfold zo_slength at hop
  split at hop
  case h_2 => cases hop
  next i st2 =>
  by_cases hc : zB ≤ i ∧ 6 ≤ d ∧ z_cat st2 ≤ 8
  case neg => rw [if_neg hc] at hop; cases hop
  rw [if_pos hc] at hop
  obtain ⟨hi, hd2, hcat⟩ := hc
  split at hop
  case h_2 => cases hop
  next q hq =>
  obtain ⟨rfl, rfl, rfl, rfl, rfl, rfl⟩ := zn_inj hop
  obtain ⟨hx, hb, hml, hr, hown, hts, -⟩ := hF
  intro ad H locs ls cells slots q1 q2 q3 q4 q5 q6 q7 q8 q9
  have kk := hW ad H locs ls cells slots q1 q2 q3 q4 q5 q6 (z_okC (z_okV_int _ _) (z_okT q7)) q8 q9
  unfold zk_slength at hck
  split at hck
  case h_2 => cases hck
  next idx =>
  simp only [Bool.and_eq_true, decide_eq_true_eq] at hck
  obtain ⟨⟨h1, rfl⟩, hn⟩ := hck
  rw [hn] at kk
  rw [List.map_cons, z_tr_ref, z_ad_str hA q2 hi hq]
  have hlq := z_strs_len q (List.mem_of_getElem? hq)
  obtain ⟨r1, r2, r3, r4⟩ := hR
  refine z_callp (va_runV (As := []) ⟨hx, hb, hml, hown, hts⟩ (zc_length l Z D tc adK adV sb sx (i - zB) q hq (by omega)) (cwV 0 hts (z_good (ws := wsV M.1 idx RJ0 yJ0_length_8abf5 (.code yJ0_length_8abf5 cJ0_length_8abf5 1 (some .int) :: z_T)) (fun w hw => by
      rcases List.mem_append.mp hw with h | h
      · simp only [List.mem_cons, List.not_mem_nil, or_false] at h
        rcases h with rfl | rfl | rfl | rfl
        · exact z_w_in h1
        · exact (z_w_in (i := 656) (by decide +kernel))
        · exact (z_w_in (i := 657) (by decide +kernel))
        · exact (z_w_in (i := 113) (by decide +kernel))
      · rcases List.mem_cons.mp h with rfl | h
        · exact (z_w_in (i := 658) (by decide +kernel))
        · exact h)) rfl rfl rfl (by decide +kernel) ⟨by show 1 + 1 ≤ _; omega, by show 8 + (1 + 11) + 60 * 1 ≤ _; omega⟩) ⟨z_P1_blind, vk_recv (hK.2.2.1 _ q hq).2 (i := 0) (by decide) q4, fun U hU hW => ⟨rfl, hK.at q4 hU hW⟩⟩ rfl rfl q5.1 rfl (lv_room (by rw [z_cat_tr]; exact hcat)) hd ⟨by omega, by omega⟩) kk
noncomputable def zo_scharAt : zNop := fun _ d _ _ _ k l st h => match st with
  | .int j :: .ref i :: st => if zB ≤ i ∧ 6 ≤ d ∧ z_cat st ≤ 8 then (match z_strs[i - zB]? with | some q => if z_in j q.2.2.2.length = true then zn (k + 1) l (.int ((q.2.2.2.getD j.toNatClampNeg 0) &&& 255) :: st) h else none | none => none) else none
  | _ => none
noncomputable def zk_scharAt : zCk := fun M _ _ _ pc ins len pl nx k => match ins with
  | .invokevirtual idx => z_w (.methodLink M.1 idx yJ0_charAt_5068e) (pl.getD 0 0) && decide (len = 3) && decide (nx (k + 1) = pc + 3)
  | _ => false
theorem zs_scharAt : z_Sn zo_scharAt zk_scharAt := by
  intro p l e R s m args below meth c Z D tc adK adV sb sx M nx ad0 n0 C S d Q a b ci k ins len pl hF hK hA hR hd hck lo st h k' lo' st' h' x y hop kc ks hW
  unfold zo_scharAt at hop
  split at hop
  case h_2 => cases hop
  next j i st2 =>
  by_cases hc : zB ≤ i ∧ 6 ≤ d ∧ z_cat st2 ≤ 8
  case neg => rw [if_neg hc] at hop; cases hop
  rw [if_pos hc] at hop
  obtain ⟨hi, hd2, hcat⟩ := hc
  split at hop
  case h_2 => cases hop
  next q hq =>
  by_cases hj : z_in j q.2.2.2.length = true
  case neg => rw [if_neg hj] at hop; cases hop
  rw [if_pos hj] at hop
  obtain ⟨rfl, rfl, rfl, rfl, rfl, rfl⟩ := zn_inj hop
  obtain ⟨hx, hb, hml, hr, hown, hts, -⟩ := hF
  intro ad H locs ls cells slots q1 q2 q3 q4 q5 q6 q7 q8 q9
  have kk := hW ad H locs ls cells slots q1 q2 q3 q4 q5 q6 (z_okC (z_okV_int _ _) (z_okT (z_okT q7))) q8 q9
  unfold zk_scharAt at hck
  split at hck
  case h_2 => cases hck
  next idx =>
  simp only [Bool.and_eq_true, decide_eq_true_eq] at hck
  obtain ⟨⟨h1, rfl⟩, hn⟩ := hck
  rw [hn] at kk
  rw [List.map_cons, List.map_cons, z_tr_ref, z_ad_str hA q2 hi hq]
  have hlq := z_strs_len q (List.mem_of_getElem? hq)
  obtain ⟨j9, hj9, e9⟩ := vp_in_of (z_in_ok hj) (by omega)
  subst e9
  rw [nI_clamp (by omega)] at kk
  obtain ⟨r1, r2, r3, r4⟩ := hR
  refine z_callp (va_runV (As := [.int (nI j9)]) ⟨hx, hb, hml, hown, hts⟩ (zc_charAt l Z D tc adK adV sb sx (i - zB) q hq (by omega) j9 hj9) (cwV 1 hts (z_good (ws := wsV M.1 idx RJ0 yJ0_charAt_5068e (.code yJ0_charAt_5068e cJ0_charAt_5068e 2 (some .char) :: z_T)) (fun w hw => by
      rcases List.mem_append.mp hw with h | h
      · simp only [List.mem_cons, List.not_mem_nil, or_false] at h
        rcases h with rfl | rfl | rfl | rfl
        · exact z_w_in h1
        · exact (z_w_in (i := 673) (by decide +kernel))
        · exact (z_w_in (i := 674) (by decide +kernel))
        · exact (z_w_in (i := 113) (by decide +kernel))
      · rcases List.mem_cons.mp h with rfl | h
        · exact (z_w_in (i := 675) (by decide +kernel))
        · exact h)) rfl rfl rfl (by decide +kernel) ⟨by show 3 + 1 ≤ _; omega, by show 8 + (2 + 11) + 60 * 3 ≤ _; omega⟩) ⟨z_P1_blind, vk_recv (hK.2.2.1 _ q hq).2 (i := 0) (by decide) q4, fun U hU hW => ⟨rfl, hK.at q4 hU hW⟩⟩ rfl rfl q5.1 rfl (lv_room (by rw [z_cat_tr]; exact hcat)) hd ⟨by omega, by omega⟩) kk
noncomputable def zo_oinit : zNop := fun _ d _ _ _ k l st h => match st with
  | .ref _ :: st => if 6 ≤ d ∧ z_cat st ≤ 8 then zn (k + 1) l st h else none
  | _ => none
noncomputable def zk_oinit : zCk := fun M _ _ _ pc ins len pl nx k => match ins with
  | .invokespecial idx => z_w (.methodLink M.1 idx objectInit) (pl.getD 0 0) && decide (len = 3) && decide (nx (k + 1) = pc + 3)
  | _ => false
theorem zs_oinit : z_Sn zo_oinit zk_oinit := by
  intro p l e R s m args below meth c Z D tc adK adV sb sx M nx ad0 n0 C S d Q a b ci k ins len pl hF hK hA hR hd hck lo st h k' lo' st' h' x y hop kc ks hW
  unfold zo_oinit at hop
  split at hop
  case h_2 => cases hop
  next i st2 =>
  by_cases hc : 6 ≤ d ∧ z_cat st2 ≤ 8
  case neg => rw [if_neg hc] at hop; cases hop
  rw [if_pos hc] at hop
  obtain ⟨hd2, hcat⟩ := hc
  obtain ⟨rfl, rfl, rfl, rfl, rfl, rfl⟩ := zn_inj hop
  obtain ⟨hx, hb, hml, hr, hown, hts, -⟩ := hF
  intro ad H locs ls cells slots q1 q2 q3 q4 q5 q6 q7 q8 q9
  have kk := hW ad H locs ls cells slots q1 q2 q3 q4 q5 q6 (z_okT q7) q8 q9
  unfold zk_oinit at hck
  split at hck
  case h_2 => cases hck
  next idx =>
  simp only [Bool.and_eq_true, decide_eq_true_eq] at hck
  obtain ⟨⟨h1, rfl⟩, hn⟩ := hck
  rw [hn] at kk
  obtain ⟨r1, r2, r3, r4⟩ := hR
  have hz := z_cat_tr ad st'
  refine W.objInit hx hb hown (hts _ (z_w_in h1)) (hts (.instanceMethod objectInit) (z_w_in (i := 136) (by decide +kernel))) (hts (.code objectInit ⟨#[0xb1]⟩ 1 none) (z_w_in (i := 137) (by decide +kernel))) rfl (by rw [hml]; exact q5.1) rfl hd (by omega) (by show 2 * 0 + ((st'.map (z_tr ad)).map fun v => v.category).sum + 12 ≤ _; omega) kk
noncomputable def zo_min : zNop := fun _ d _ _ _ k l st h => match st with
  | .int y :: .int x :: st => if 6 ≤ d ∧ z_cat st ≤ 8 then zn (k + 1) l (.int (if y < x then y else x) :: st) h else none
  | _ => none
noncomputable def zk_min : zCk := fun M _ _ _ pc ins len pl nx k => match ins with
  | .invokestatic idx => z_w (.methodLink M.1 idx Lib.Math.min.name) (pl.getD 0 0) && decide (len = 3) && decide (nx (k + 1) = pc + 3)
  | _ => false
theorem zs_min : z_Sn zo_min zk_min := by
  intro p l e R s m args below meth c Z D tc adK adV sb sx M nx ad0 n0 C S d Q a b ci k ins len pl hF hK hA hR hd hck lo st h k' lo' st' h' x y hop kc ks hW
  unfold zo_min at hop
  split at hop
  case h_2 => cases hop
  next vy vx st2 =>
  by_cases hc : 6 ≤ d ∧ z_cat st2 ≤ 8
  case neg => rw [if_neg hc] at hop; cases hop
  rw [if_pos hc] at hop
  obtain ⟨hd2, hcat⟩ := hc
  obtain ⟨rfl, rfl, rfl, rfl, rfl, rfl⟩ := zn_inj hop
  obtain ⟨hx, hb, hml, hr, hown, hts, -⟩ := hF
  intro ad H locs ls cells slots q1 q2 q3 q4 q5 q6 q7 q8 q9
  have kk := hW ad H locs ls cells slots q1 q2 q3 q4 q5 q6 (z_okC (z_okV_int _ _) (z_okT (z_okT q7))) q8 q9
  unfold zk_min at hck
  split at hck
  case h_2 => cases hck
  next idx =>
  simp only [Bool.and_eq_true, decide_eq_true_eq] at hck
  obtain ⟨⟨h1, rfl⟩, hn⟩ := hck
  rw [hn] at kk
  obtain ⟨r1, r2, r3, r4⟩ := hR
  have hz := z_cat_tr ad st2
  exact va_mmin hx hb (by rw [hml]; exact q5.1.symm) hown (hts _ (z_w_in h1)) (hts (.static Lib.Math.min.name) (z_w_in (i := 438) (by decide +kernel))) (hts (.initialized "java/lang/Math") (z_w_in (i := 117) (by decide +kernel))) (hts (.code Lib.Math.min.name Lib.Math.min.code 2 (some .int)) (z_w_in (i := 439) (by decide +kernel))) (by omega) (by omega) (by omega) (by omega) hd kk
noncomputable def zo_max : zNop := fun _ d _ _ _ k l st h => match st with
  | .int y :: .int x :: st => if 6 ≤ d ∧ z_cat st ≤ 8 then zn (k + 1) l (.int (if x < y then y else x) :: st) h else none
  | _ => none
noncomputable def zk_max : zCk := fun M _ _ _ pc ins len pl nx k => match ins with
  | .invokestatic idx => z_w (.methodLink M.1 idx Lib.Math.max.name) (pl.getD 0 0) && decide (len = 3) && decide (nx (k + 1) = pc + 3)
  | _ => false
theorem zs_max : z_Sn zo_max zk_max := by
  intro p l e R s m args below meth c Z D tc adK adV sb sx M nx ad0 n0 C S d Q a b ci k ins len pl hF hK hA hR hd hck lo st h k' lo' st' h' x y hop kc ks hW
  unfold zo_max at hop
  split at hop
  case h_2 => cases hop
  next vy vx st2 =>
  by_cases hc : 6 ≤ d ∧ z_cat st2 ≤ 8
  case neg => rw [if_neg hc] at hop; cases hop
  rw [if_pos hc] at hop
  obtain ⟨hd2, hcat⟩ := hc
  obtain ⟨rfl, rfl, rfl, rfl, rfl, rfl⟩ := zn_inj hop
  obtain ⟨hx, hb, hml, hr, hown, hts, -⟩ := hF
  intro ad H locs ls cells slots q1 q2 q3 q4 q5 q6 q7 q8 q9
  have kk := hW ad H locs ls cells slots q1 q2 q3 q4 q5 q6 (z_okC (z_okV_int _ _) (z_okT (z_okT q7))) q8 q9
  unfold zk_max at hck
  split at hck
  case h_2 => cases hck
  next idx =>
  simp only [Bool.and_eq_true, decide_eq_true_eq] at hck
  obtain ⟨⟨h1, rfl⟩, hn⟩ := hck
  rw [hn] at kk
  obtain ⟨r1, r2, r3, r4⟩ := hR
  have hz := z_cat_tr ad st2
  exact va_mmax hx hb (by rw [hml]; exact q5.1.symm) hown (hts _ (z_w_in h1)) (hts (.static Lib.Math.max.name) (z_w_in (i := 1171) (by decide +kernel))) (hts (.initialized "java/lang/Math") (z_w_in (i := 117) (by decide +kernel))) (hts (.code Lib.Math.max.name Lib.Math.max.code 2 (some .int)) (z_w_in (i := 1172) (by decide +kernel))) (by omega) (by omega) (by omega) (by omega) hd kk
noncomputable def zo_acopy : zNop := fun _ d _ _ _ k l st h => match st with
  | .int n :: .int dp :: .ref i1 :: .int sp :: .ref i0 :: st => match h[i0]?, h[i1]? with
    | some (.inl (0, (n0, .inl f))), some (.inl (0, (n1, .inl g))) => if 6 ≤ d ∧ z_cat st ≤ 8 ∧ ¬ sp < 0 ∧ ¬ dp < 0 ∧ ¬ n < 0 ∧ sp.toNatClampNeg + n.toNatClampNeg ≤ n0 ∧ dp.toNatClampNeg + n.toNatClampNeg ≤ n1 then zn (k + 1) l st (h.set i1 (.inl (0, (n1, .inl (va_cpy f g sp.toNatClampNeg dp.toNatClampNeg n.toNatClampNeg))))) else none
    | _, _ => none
  | _ => none
noncomputable def zk_acopy : zCk := fun M _ _ _ pc ins len pl nx k => match ins with
  | .invokestatic idx => z_w (.methodLink M.1 idx arraycopyName) (pl.getD 0 0) && decide (len = 3) && decide (nx (k + 1) = pc + 3)
  | _ => false
theorem zs_acopy : z_Sn zo_acopy zk_acopy := by
  intro p l e R s m args below meth c Z D tc adK adV sb sx M nx ad0 n0 C S d Q a b ci k ins len pl hF hK hA hR hd hck lo st h k' lo' st' h' x y hop kc ks hW
  unfold zo_acopy at hop
  split at hop
  case h_2 => cases hop
  next n dp i1 sp i0 st2 =>
  split at hop
  case h_2 => cases hop
  next n0' f n1' g he0 he1 =>
  by_cases hc : 6 ≤ d ∧ z_cat st2 ≤ 8 ∧ ¬ sp < 0 ∧ ¬ dp < 0 ∧ ¬ n < 0 ∧ sp.toNatClampNeg + n.toNatClampNeg ≤ n0' ∧ dp.toNatClampNeg + n.toNatClampNeg ≤ n1'
  case neg => rw [if_neg hc] at hop; cases hop
  rw [if_pos hc] at hop
  obtain ⟨hd2, hcat, c1, c2, c3, c4, c5⟩ := hc
  obtain ⟨rfl, rfl, rfl, rfl, rfl, rfl⟩ := zn_inj hop
  obtain ⟨hx, hb, hml, hr, hown, hts, -⟩ := hF
  intro ad H locs ls cells slots q1 q2 q3 q4 q5 q6 q7 q8 q9
  unfold zk_acopy at hck
  split at hck
  case h_2 => cases hck
  next idx =>
  simp only [Bool.and_eq_true, decide_eq_true_eq] at hck
  obtain ⟨⟨h1, rfl⟩, hn⟩ := hck
  obtain ⟨r1, r2, r3, r4⟩ := hR
  have hz := z_cat_tr ad st'
  have e9 : nativeFrameWords "java/lang/System" "arraycopy" 5 ≤ 40 := by decide
  refine va_copyi hx hb (by rw [hml]; exact q5.1.symm) hown (hts _ (z_w_in h1)) (hts (.native arraycopyName) (z_w_in (i := 421) (by decide +kernel))) (hts (.static arraycopyName) (z_w_in (i := 420) (by decide +kernel))) (hts (.initialized "java/lang/System") (z_w_in (i := 111) (by decide +kernel))) hK.2.1 q1.1 q1.2.1 q4 i0 i1 0 0 (z_ws_get he0) (z_ws_get he1) rfl rfl rfl c1 c2 c3 c4 c5 (fun _ _ => rfl) (by omega) (by omega) hd fun H1 locs1 g1 g2 g3 => ?_
  have kk := hW ad H1 locs1 ls cells slots (q1.set (e := .inl (0, (n1', .inl (va_cpy f g sp.toNatClampNeg dp.toNatClampNeg n.toNatClampNeg)))) g1 g2 trivial) q2 (by rw [List.length_set]; exact q3) g3 q5 (by rw [List.length_set]; exact q6) (by rw [List.length_set]; exact z_okT (z_okT (z_okT (z_okT (z_okT q7))))) q8 q9
  rw [hn] at kk
  exact kk
noncomputable def zo_clone : zNop := fun _ d _ _ _ k l st h => match st with
  | .ref i :: st => match h[i]? with
    | some (.inl (0, (n, .inl f))) => if 6 ≤ d ∧ z_cat st ≤ 8 ∧ h.length < zB then some (k + 1, l, .ref h.length :: st, h ++ [.inl (0, (n, .inl f))], 1, n) else none
    | _ => none
  | _ => none
noncomputable def zk_clone : zCk := fun M _ _ _ pc ins len pl nx k => match ins with
  | .invokevirtual idx => z_w (.methodLink M.1 idx ⟨"[I", "clone", "()Ljava/lang/Object;"⟩) (pl.getD 0 0) && decide (len = 3) && decide (nx (k + 1) = pc + 3)
  | _ => false
theorem z_K_int {D : va_G} {tc : Nat → ClassId} {U : State} (h : va_K D vwCl (z_tys tc) U) : U.vm.findClass "[I" = some (tc 0) := (h.2 0 _ rfl).2
theorem zs_clone : z_Sn zo_clone zk_clone := by
  intro p l e R s m args below meth c Z D tc adK adV sb sx M nx ad0 n0 C S d Q a b ci k ins len pl hF hK hA hR hd hck lo st h k' lo' st' h' x y hop kc ks hW
  unfold zo_clone at hop
  split at hop
  case h_2 => cases hop
  next i st2 =>
  split at hop
  case h_2 => cases hop
  next n f he =>
  by_cases hc : 6 ≤ d ∧ z_cat st2 ≤ 8 ∧ h.length < zB
  case neg => rw [if_neg hc] at hop; cases hop
  rw [if_pos hc] at hop
  obtain ⟨hd2, hcat, hlen⟩ := hc
  simp only [Option.some.injEq, Prod.mk.injEq] at hop
  obtain ⟨rfl, rfl, rfl, rfl, rfl, rfl⟩ := hop
  obtain ⟨hx, hb, hml, hr, hown, hts, -⟩ := hF
  intro ad H locs ls cells slots q1 q2 q3 q4 q5 q6 q7 q8 q9
  unfold zk_clone at hck
  split at hck
  case h_2 => cases hck
  next idx =>
  simp only [Bool.and_eq_true, decide_eq_true_eq] at hck
  obtain ⟨⟨h1, rfl⟩, hn⟩ := hck
  obtain ⟨r1, r2, r3, r4⟩ := hR
  have hz := z_cat_tr ad st2
  refine va_clone (ad := "[I") (x := (n, .inl f)) (ty := .int) hx hb (by rw [hml]; exact q5.1.symm) hown (hts _ (z_w_in h1)) (hts (.sameMethod "[I" "java/lang/Object" "clone" "()Ljava/lang/Object;") (z_w_in (i := 956) (by decide +kernel))) (hts (.native ⟨"java/lang/Object", "clone", "()Ljava/lang/Object;"⟩) (z_w_in (i := 957) (by decide +kernel))) (hts (.instanceMethod ⟨"java/lang/Object", "clone", "()Ljava/lang/Object;"⟩) (z_w_in (i := 958) (by decide +kernel))) (hts (.selects "[I" ⟨"[I", "clone", "()Ljava/lang/Object;"⟩ ⟨"java/lang/Object", "clone", "()Ljava/lang/Object;"⟩) (z_w_in (i := 959) (by decide +kernel))) hK.2.2.2.2.2.2.2.2.2.2.2.2.1 hK.2.1 q1.1 q1.2.1 q4 (fun q hq => Nat.le_trans hK.1 hq) i 0 (z_ws_get he) rfl (z_K_int hK.2.1) (fun i9 v9 h9 => by
      have h8 : (arrV (tc 0) n (fun j => .int (f j))).slots[i9]? = some v9 := h9
      unfold arrV at h8
      simp only [Array.getElem?_ofFn] at h8
      split at h8
      · cases h8; rfl
      · cases h8) (by omega) (by omega) (by omega) (by show slots + n ≤ _; omega) hd fun q H1 g0 g1 g2 g3 => ?_
  have kk := z_W_new (x := 1) (y := n) (q := q) (cells := cells) (slots := slots) hW q1 q2 q3 q5 q6 (z_okT q7) hlen (fun _ _ => rfl) trivial g1 g2 g3 (by omega) (by omega)
  rw [hn] at kk
  exact kk
noncomputable def zo_cast : zNop := fun _ _ _ _ _ k l st h => match st with
  | .ref i :: st => match h[i]? with
    | some (.inl (0, (n, .inl f))) => zn (k + 1) l (.ref i :: st) h
    | _ => none
  | _ => none
noncomputable def zk_cast : zCk := fun M _ _ _ pc ins len pl nx k => match ins with
  | .checkcast idx => z_w (.classLink M.1 idx "[I") (pl.getD 0 0) && decide (len = 3) && decide (nx (k + 1) = pc + 3)
  | _ => false
theorem zs_cast : z_Sn zo_cast zk_cast := by
  intro p l e R s m args below meth c Z D tc adK adV sb sx M nx ad0 n0 C S d Q a b ci k ins len pl hF hK hA hR hd hck lo st h k' lo' st' h' x y hop kc ks hW
  unfold zo_cast at hop
  split at hop
  case h_2 => cases hop
  next i st2 =>
  split at hop
  case h_2 => cases hop
  next n f he =>
  obtain ⟨rfl, rfl, rfl, rfl, rfl, rfl⟩ := zn_inj hop
  obtain ⟨hx, hb, hml, hr, hown, hts, -⟩ := hF
  intro ad H locs ls cells slots q1 q2 q3 q4 q5 q6 q7 q8 q9
  have kk := hW ad H locs ls cells slots q1 q2 q3 q4 q5 q6 q7 q8 q9
  unfold zk_cast at hck
  split at hck
  case h_2 => cases hck
  next idx =>
  simp only [Bool.and_eq_true, decide_eq_true_eq] at hck
  obtain ⟨⟨h1, rfl⟩, hn⟩ := hck
  rw [hn] at kk
  exact va_castA hx hb hown (hts _ (z_w_in h1)) q1.1 i (z_ws_get he) (z_K_int hK.2.1) hd kk
