/-! arrays -/
noncomputable def z_in (i : Int32) (n : Nat) : Bool := !(decide (i < 0) || decide (n ≤ i.toNatClampNeg))
theorem z_in_ok {i : Int32} {n : Nat} (h : z_in i n = true) : vp_in i n := by
  unfold z_in at h
  simp only [Bool.not_eq_true', Bool.or_eq_false_iff, decide_eq_false_iff_not] at h
  exact fun q => q.elim h.1 h.2
noncomputable def zo_iald : zNop := fun _ _ _ _ _ k l st h => match st with
  | .int j :: .ref i :: st => match h[i]? with
    | some (.inl (0, (n, .inl f))) => if z_in j n = true then zn (k + 1) l (.int (f j.toNatClampNeg) :: st) h else none
    | _ => none
  | _ => none
noncomputable def zk_iald : zCk := fun _ _ _ _ pc ins len _ nx k => match ins with
  | .iaload => decide (len = 1) && decide (nx (k + 1) = pc + 1)
  | _ => false
theorem zs_iald : z_Sn zo_iald zk_iald := by
  intro p l e R s m args below meth c Z D tc adK adV sb sx M nx ad0 n0 C S d Q a b ci k ins len pl hF hK hA hR hd hck lo st h k' lo' st' h' x y hop kc ks hW
  unfold zo_iald at hop
  split at hop
  case h_2 => cases hop
  next j i st2 =>
  split at hop
  case h_2 => cases hop
  next n f he =>
  by_cases hj : z_in j n = true
  case neg => rw [if_neg hj] at hop; cases hop
  rw [if_pos hj] at hop
  obtain ⟨rfl, rfl, rfl, rfl, rfl, rfl⟩ := zn_inj hop
  obtain ⟨hx, hb, hml, hr, hown, hts, -⟩ := hF
  intro ad H locs ls cells slots q1 q2 q3 q4 q5 q6 q7 q8 q9
  have kk := hW ad H locs ls cells slots q1 q2 q3 q4 q5 q6 (z_okC (z_okV_int _ _) (z_okT (z_okT q7))) q8 q9
  unfold zk_iald at hck
  split at hck
  case h_2 => cases hck
  simp only [Bool.and_eq_true, decide_eq_true_eq] at hck
  obtain ⟨rfl, hn⟩ := hck
  rw [hn] at kk
  
  exact va_iald hx hb hK.2.1 q1.1 i 0 (z_ws_get he) rfl (z_in_ok hj) hd kk
noncomputable def zo_bald : zNop := fun _ _ _ _ _ k l st h => match st with
  | .int j :: .ref i :: st => match h[i]? with
    | some (.inl (1, (n, .inl f))) => if z_in j n = true then zn (k + 1) l (.int (f j.toNatClampNeg) :: st) h else none
    | _ => none
  | _ => none
noncomputable def zk_bald : zCk := fun _ _ _ _ pc ins len _ nx k => match ins with
  | .baload => decide (len = 1) && decide (nx (k + 1) = pc + 1)
  | _ => false
theorem zs_bald : z_Sn zo_bald zk_bald := by
  intro p l e R s m args below meth c Z D tc adK adV sb sx M nx ad0 n0 C S d Q a b ci k ins len pl hF hK hA hR hd hck lo st h k' lo' st' h' x y hop kc ks hW
  unfold zo_bald at hop
  split at hop
  case h_2 => cases hop
  next j i st2 =>
  split at hop
  case h_2 => cases hop
  next n f he =>
  by_cases hj : z_in j n = true
  case neg => rw [if_neg hj] at hop; cases hop
  rw [if_pos hj] at hop
  obtain ⟨rfl, rfl, rfl, rfl, rfl, rfl⟩ := zn_inj hop
  obtain ⟨hx, hb, hml, hr, hown, hts, -⟩ := hF
  intro ad H locs ls cells slots q1 q2 q3 q4 q5 q6 q7 q8 q9
  have kk := hW ad H locs ls cells slots q1 q2 q3 q4 q5 q6 (z_okC (z_okV_int _ _) (z_okT (z_okT q7))) q8 q9
  unfold zk_bald at hck
  split at hck
  case h_2 => cases hck
  simp only [Bool.and_eq_true, decide_eq_true_eq] at hck
  obtain ⟨rfl, hn⟩ := hck
  rw [hn] at kk
  
  exact va_bald hx hb hK.2.1 q1.1 i 1 (z_ws_get he) rfl (z_in_ok hj) hd kk
noncomputable def zo_lald : zNop := fun _ _ _ _ _ k l st h => match st with
  | .int j :: .ref i :: st => match h[i]? with
    | some (.inl (2, (n, .inr (.inl f)))) => if z_in j n = true then zn (k + 1) l (.long (f j.toNatClampNeg) :: st) h else none
    | _ => none
  | _ => none
noncomputable def zk_lald : zCk := fun _ _ _ _ pc ins len _ nx k => match ins with
  | .laload => decide (len = 1) && decide (nx (k + 1) = pc + 1)
  | _ => false
theorem zs_lald : z_Sn zo_lald zk_lald := by
  intro p l e R s m args below meth c Z D tc adK adV sb sx M nx ad0 n0 C S d Q a b ci k ins len pl hF hK hA hR hd hck lo st h k' lo' st' h' x y hop kc ks hW
  unfold zo_lald at hop
  split at hop
  case h_2 => cases hop
  next j i st2 =>
  split at hop
  case h_2 => cases hop
  next n f he =>
  by_cases hj : z_in j n = true
  case neg => rw [if_neg hj] at hop; cases hop
  rw [if_pos hj] at hop
  obtain ⟨rfl, rfl, rfl, rfl, rfl, rfl⟩ := zn_inj hop
  obtain ⟨hx, hb, hml, hr, hown, hts, -⟩ := hF
  intro ad H locs ls cells slots q1 q2 q3 q4 q5 q6 q7 q8 q9
  have kk := hW ad H locs ls cells slots q1 q2 q3 q4 q5 q6 (z_okC (z_okV_long _ _) (z_okT (z_okT q7))) q8 q9
  unfold zk_lald at hck
  split at hck
  case h_2 => cases hck
  simp only [Bool.and_eq_true, decide_eq_true_eq] at hck
  obtain ⟨rfl, hn⟩ := hck
  rw [hn] at kk
  
  exact va_lald hx hb hK.2.1 q1.1 i 2 (z_ws_get he) rfl (z_in_ok hj) hd kk
theorem z_rf_tr (ad : Nat → Nat) (r : Option Nat) : va_rf (r.map ad) = z_tr ad (va_rf r) := by cases r <;> rfl
noncomputable def zo_aald : zNop := fun _ _ _ _ _ k l st h => match st with
  | .int j :: .ref i :: st => match h[i]? with
    | some (.inl (3, (n, .inr (.inr (.inr (.inr f)))))) => if z_in j n = true then zn (k + 1) l (va_rf (f j.toNatClampNeg) :: st) h else none
    | _ => none
  | _ => none
noncomputable def zk_aald : zCk := fun _ _ _ _ pc ins len _ nx k => match ins with
  | .aaload => decide (len = 1) && decide (nx (k + 1) = pc + 1)
  | _ => false
theorem zs_aald : z_Sn zo_aald zk_aald := by
  intro p l e R s m args below meth c Z D tc adK adV sb sx M nx ad0 n0 C S d Q a b ci k ins len pl hF hK hA hR hd hck lo st h k' lo' st' h' x y hop kc ks hW
  unfold zo_aald at hop
  split at hop
  case h_2 => cases hop
  next j i st2 =>
  split at hop
  case h_2 => cases hop
  next n f he =>
  by_cases hj : z_in j n = true
  case neg => rw [if_neg hj] at hop; cases hop
  rw [if_pos hj] at hop
  obtain ⟨rfl, rfl, rfl, rfl, rfl, rfl⟩ := zn_inj hop
  obtain ⟨hx, hb, hml, hr, hown, hts, -⟩ := hF
  intro ad H locs ls cells slots q1 q2 q3 q4 q5 q6 q7 q8 q9
  have hok : z_okV h'.length (va_rf (f j.toNatClampNeg)) := by
    have h0 : ∀ j i, f j = some i → i < h'.length := q1.2.2.1 _ (List.mem_of_getElem? he)
    cases hf : f j.toNatClampNeg with
    | none => exact z_okV_null _
    | some i9 => exact fun z hz => by cases hz; exact Or.inl (h0 _ _ hf)
  have kk := hW ad H locs ls cells slots q1 q2 q3 q4 q5 q6 (z_okC hok (z_okT (z_okT q7))) q8 q9
  unfold zk_aald at hck
  split at hck
  case h_2 => cases hck
  simp only [Bool.and_eq_true, decide_eq_true_eq] at hck
  obtain ⟨rfl, hn⟩ := hck
  rw [hn, List.map_cons, ← z_rf_tr] at kk
  exact va_aldq hx hb hK.2.1 q1.1 i 3 (z_ws_get he) rfl (z_in_ok hj) hd kk
noncomputable def zo_iast : zNop := fun _ _ _ _ _ k l st h => match st with
  | .int v :: .int j :: .ref i :: st => match h[i]? with
    | some (.inl (0, (n, .inl f))) => if z_in j n = true then zn (k + 1) l st (h.set i (.inl (0, (n, .inl (upd f j.toNatClampNeg v))))) else none
    | _ => none
  | _ => none
noncomputable def zk_iast : zCk := fun _ _ _ _ pc ins len _ nx k => match ins with
  | .iastore => decide (len = 1) && decide (nx (k + 1) = pc + 1)
  | _ => false
theorem zs_iast : z_Sn zo_iast zk_iast := by
  intro p l e R s m args below meth c Z D tc adK adV sb sx M nx ad0 n0 C S d Q a b ci k ins len pl hF hK hA hR hd hck lo st h k' lo' st' h' x y hop kc ks hW
  unfold zo_iast at hop
  split at hop
  case h_2 => cases hop
  next v j i st2 =>
  split at hop
  case h_2 => cases hop
  next n f he =>
  by_cases hj : z_in j n = true
  case neg => rw [if_neg hj] at hop; cases hop
  rw [if_pos hj] at hop
  obtain ⟨rfl, rfl, rfl, rfl, rfl, rfl⟩ := zn_inj hop
  obtain ⟨hx, hb, hml, hr, hown, hts, -⟩ := hF
  intro ad H locs ls cells slots q1 q2 q3 q4 q5 q6 q7 q8 q9
  unfold zk_iast at hck
  split at hck
  case h_2 => cases hck
  simp only [Bool.and_eq_true, decide_eq_true_eq] at hck
  obtain ⟨rfl, hn⟩ := hck
  refine va_iast hx hb hK.2.1 q1.1 q1.2.1 q4 i 0 (z_ws_get he) rfl (z_in_ok hj) hd fun H1 locs1 g1 g2 g3 => ?_
  have kk := hW ad H1 locs1 ls cells slots (q1.set (e := .inl (0, (n, .inl (upd f j.toNatClampNeg v)))) g1 g2 trivial) q2 (by rw [List.length_set]; exact q3) g3 q5 (by rw [List.length_set]; exact q6) (by rw [List.length_set]; exact z_okT (z_okT (z_okT q7))) q8 q9
  rw [hn] at kk
  exact kk
noncomputable def zo_bast : zNop := fun _ _ _ _ _ k l st h => match st with
  | .int v :: .int j :: .ref i :: st => match h[i]? with
    | some (.inl (1, (n, .inl f))) => if z_in j n = true then zn (k + 1) l st (h.set i (.inl (1, (n, .inl (upd f j.toNatClampNeg (vp_nar .byte v)))))) else none
    | _ => none
  | _ => none
noncomputable def zk_bast : zCk := fun _ _ _ _ pc ins len _ nx k => match ins with
  | .bastore => decide (len = 1) && decide (nx (k + 1) = pc + 1)
  | _ => false
theorem zs_bast : z_Sn zo_bast zk_bast := by
  intro p l e R s m args below meth c Z D tc adK adV sb sx M nx ad0 n0 C S d Q a b ci k ins len pl hF hK hA hR hd hck lo st h k' lo' st' h' x y hop kc ks hW
  unfold zo_bast at hop
  split at hop
  case h_2 => cases hop
  next v j i st2 =>
  split at hop
  case h_2 => cases hop
  next n f he =>
  by_cases hj : z_in j n = true
  case neg => rw [if_neg hj] at hop; cases hop
  rw [if_pos hj] at hop
  obtain ⟨rfl, rfl, rfl, rfl, rfl, rfl⟩ := zn_inj hop
  obtain ⟨hx, hb, hml, hr, hown, hts, -⟩ := hF
  intro ad H locs ls cells slots q1 q2 q3 q4 q5 q6 q7 q8 q9
  unfold zk_bast at hck
  split at hck
  case h_2 => cases hck
  simp only [Bool.and_eq_true, decide_eq_true_eq] at hck
  obtain ⟨rfl, hn⟩ := hck
  refine va_bast hx hb hK.2.1 q1.1 q1.2.1 q4 i 1 (z_ws_get he) rfl (z_in_ok hj) hd fun H1 locs1 g1 g2 g3 => ?_
  have kk := hW ad H1 locs1 ls cells slots (q1.set (e := .inl (1, (n, .inl (upd f j.toNatClampNeg (vp_nar .byte v))))) g1 g2 trivial) q2 (by rw [List.length_set]; exact q3) g3 q5 (by rw [List.length_set]; exact q6) (by rw [List.length_set]; exact z_okT (z_okT (z_okT q7))) q8 q9
  rw [hn] at kk
  exact kk
noncomputable def zo_last : zNop := fun _ _ _ _ _ k l st h => match st with
  | .long v :: .int j :: .ref i :: st => match h[i]? with
    | some (.inl (2, (n, .inr (.inl f)))) => if z_in j n = true then zn (k + 1) l st (h.set i (.inl (2, (n, .inr (.inl (vp_updL f j.toNatClampNeg v)))))) else none
    | _ => none
  | _ => none
noncomputable def zk_last : zCk := fun _ _ _ _ pc ins len _ nx k => match ins with
  | .lastore => decide (len = 1) && decide (nx (k + 1) = pc + 1)
  | _ => false
theorem zs_last : z_Sn zo_last zk_last := by
  intro p l e R s m args below meth c Z D tc adK adV sb sx M nx ad0 n0 C S d Q a b ci k ins len pl hF hK hA hR hd hck lo st h k' lo' st' h' x y hop kc ks hW
  unfold zo_last at hop
  split at hop
  case h_2 => cases hop
  next v j i st2 =>
  split at hop
  case h_2 => cases hop
  next n f he =>
  by_cases hj : z_in j n = true
  case neg => rw [if_neg hj] at hop; cases hop
  rw [if_pos hj] at hop
  obtain ⟨rfl, rfl, rfl, rfl, rfl, rfl⟩ := zn_inj hop
  obtain ⟨hx, hb, hml, hr, hown, hts, -⟩ := hF
  intro ad H locs ls cells slots q1 q2 q3 q4 q5 q6 q7 q8 q9
  unfold zk_last at hck
  split at hck
  case h_2 => cases hck
  simp only [Bool.and_eq_true, decide_eq_true_eq] at hck
  obtain ⟨rfl, hn⟩ := hck
  refine va_last hx hb hK.2.1 q1.1 q1.2.1 q4 i 2 (z_ws_get he) rfl (z_in_ok hj) hd fun H1 locs1 g1 g2 g3 => ?_
  have kk := hW ad H1 locs1 ls cells slots (q1.set (e := .inl (2, (n, .inr (.inl (vp_updL f j.toNatClampNeg v))))) g1 g2 trivial) q2 (by rw [List.length_set]; exact q3) g3 q5 (by rw [List.length_set]; exact q6) (by rw [List.length_set]; exact z_okT (z_okT (z_okT q7))) q8 q9
  rw [hn] at kk
  exact kk
noncomputable def zo_aast : zNop := fun _ _ _ _ _ k l st h => match st with
  | .ref v :: .int j :: .ref i :: st => match h[i]?, h[v]? with
    | some (.inl (3, (n, .inr (.inr (.inr (.inr f)))))), some (.inr (1, _)) => if z_in j n = true then zn (k + 1) l st (h.set i (.inl (3, (n, .inr (.inr (.inr (.inr (va_up f j.toNatClampNeg (some v))))))))) else none
    | _, _ => none
  | _ => none
noncomputable def zk_aast : zCk := fun _ _ _ _ pc ins len _ nx k => match ins with
  | .aastore => decide (len = 1) && decide (nx (k + 1) = pc + 1)
  | _ => false
theorem z_trA_up (ad : Nat → Nat) (f : Nat → Option Nat) (j v : Nat) : (fun q => (va_up f j (some v) q).map ad) = va_up (fun q => (f q).map ad) j (some (ad v)) := by
  funext q
  unfold va_up
  by_cases h : q = j
  · rw [if_pos h, if_pos h]; rfl
  · rw [if_neg h, if_neg h]
theorem zs_aast : z_Sn zo_aast zk_aast := by
  intro p l e R s m args below meth c Z D tc adK adV sb sx M nx ad0 n0 C S d Q a b ci k ins len pl hF hK hA hR hd hck lo st h k' lo' st' h' x y hop kc ks hW
  unfold zo_aast at hop
  split at hop
  case h_2 => cases hop
  next v j i st2 =>
  split at hop
  case h_2 => cases hop
  next n f fs he hv =>
  by_cases hj : z_in j n = true
  case neg => rw [if_neg hj] at hop; cases hop
  rw [if_pos hj] at hop
  obtain ⟨rfl, rfl, rfl, rfl, rfl, rfl⟩ := zn_inj hop
  obtain ⟨hx, hb, hml, hr, hown, hts, -⟩ := hF
  intro ad H locs ls cells slots q1 q2 q3 q4 q5 q6 q7 q8 q9
  unfold zk_aast at hck
  split at hck
  case h_2 => cases hck
  simp only [Bool.and_eq_true, decide_eq_true_eq] at hck
  obtain ⟨rfl, hn⟩ := hck
  refine va_astq hx hb hK.2.1 q1.1 q1.2.1 q4 i 3 v 1 (r := (RX2, TX2, 18)) (z_ws_get he) rfl (z_ws_get hv) rfl (z_in_ok hj) hd fun H1 locs1 g1 g2 g3 => ?_
  have okE : z_okE h.length (.inl (3, (n, .inr (.inr (.inr (.inr (va_up f j.toNatClampNeg (some v)))))))) := by
    have h0 : ∀ j i, f j = some i → i < h.length := q1.2.2.1 _ (List.mem_of_getElem? he)
    intro q i9 hq
    unfold va_up at hq
    by_cases hqj : q = j.toNatClampNeg
    · rw [if_pos hqj] at hq
      cases hq
      exact (List.getElem?_eq_some_iff.mp hv).1
    · rw [if_neg hqj] at hq
      exact h0 q i9 hq
  rw [← z_trA_up] at g1 g2
  have kk := hW ad H1 locs1 ls cells slots (q1.set (e := .inl (3, (n, .inr (.inr (.inr (.inr (va_up f j.toNatClampNeg (some v)))))))) g1 g2 okE) q2 (by rw [List.length_set]; exact q3) g3 q5 (by rw [List.length_set]; exact q6) (by rw [List.length_set]; exact z_okT (z_okT (z_okT q7))) q8 q9
  rw [hn] at kk
  exact kk
noncomputable def zo_alen : zNop := fun _ _ _ _ _ k l st h => match st with
  | .ref i :: st => match h[i]? with
    | some (.inl (t, (n, _))) => if t < 4 then zn (k + 1) l (.int (Int32.ofNat n) :: st) h else none
    | _ => none
  | _ => none
noncomputable def zk_alen : zCk := fun _ _ _ _ pc ins len _ nx k => match ins with
  | .arraylength => decide (len = 1) && decide (nx (k + 1) = pc + 1)
  | _ => false
theorem z_trA_len (ad : Nat → Nat) (a : vp_A) : (z_trA ad a).1 = a.1 := by
  obtain ⟨n, f | f | f | f | f⟩ := a <;> rfl
theorem z_tys_at (tc : Nat → ClassId) {t : Nat} (h : t < 4) : ∃ ty, (z_tys tc)[t]? = some (tc t, ty) := by
  match t, h with
  | 0, _ => exact ⟨_, rfl⟩
  | 1, _ => exact ⟨_, rfl⟩
  | 2, _ => exact ⟨_, rfl⟩
  | 3, _ => exact ⟨_, rfl⟩
theorem zs_alen : z_Sn zo_alen zk_alen := by
  intro p l e R s m args below meth c Z D tc adK adV sb sx M nx ad0 n0 C S d Q a b ci k ins len pl hF hK hA hR hd hck lo st h k' lo' st' h' x y hop kc ks hW
  unfold zo_alen at hop
  split at hop
  case h_2 => cases hop
  next i st2 =>
  split at hop
  case h_2 => cases hop
  next t n f he =>
  by_cases ht : t < 4
  case neg => rw [if_neg ht] at hop; cases hop
  rw [if_pos ht] at hop
  obtain ⟨rfl, rfl, rfl, rfl, rfl, rfl⟩ := zn_inj hop
  obtain ⟨hx, hb, hml, hr, hown, hts, -⟩ := hF
  intro ad H locs ls cells slots q1 q2 q3 q4 q5 q6 q7 q8 q9
  have kk := hW ad H locs ls cells slots q1 q2 q3 q4 q5 q6 (z_okC (z_okV_int _ _) (z_okT q7)) q8 q9
  unfold zk_alen at hck
  split at hck
  case h_2 => cases hck
  simp only [Bool.and_eq_true, decide_eq_true_eq] at hck
  obtain ⟨rfl, hn⟩ := hck
  rw [hn] at kk
  obtain ⟨ty, hty⟩ := z_tys_at tc ht
  exact va_alen hx hb hK.2.1 q1.1 i t (z_ws_get he) hty (by rw [z_trA_len]) hd kk
/-! the script -/
noncomputable def zo_sald : zNop := fun sx _ _ _ _ k l st h => match st with
  | .int j :: .ref i :: st => if i = zS ∧ z_in j sx.1 = true then zn (k + 1) l (.int (sx.2 j.toNatClampNeg) :: st) h else none
  | _ => none
noncomputable def zk_sald : zCk := fun _ _ _ _ pc ins len _ nx k => match ins with
  | .iaload => decide (len = 1) && decide (nx (k + 1) = pc + 1)
  | _ => false
theorem zs_sald : z_Sn zo_sald zk_sald := by
  intro p l e R s m args below meth c Z D tc adK adV sb sx M nx ad0 n0 C S d Q a b ci k ins len pl hF hK hA hR hd hck lo st h k' lo' st' h' x y hop kc ks hW
  unfold zo_sald at hop
  split at hop
  case h_2 => cases hop
  next j i st2 =>
  by_cases hc : i = zS ∧ z_in j sx.1 = true
  case neg => rw [if_neg hc] at hop; cases hop
  rw [if_pos hc] at hop
  obtain ⟨rfl, hj⟩ := hc
  obtain ⟨rfl, rfl, rfl, rfl, rfl, rfl⟩ := zn_inj hop
  obtain ⟨hx, hb, hml, hr, hown, hts, -⟩ := hF
  intro ad H locs ls cells slots q1 q2 q3 q4 q5 q6 q7 q8 q9
  have kk := hW ad H locs ls cells slots q1 q2 q3 q4 q5 q6 (z_okC (z_okV_int _ _) (z_okT (z_okT q7))) q8 q9
  unfold zk_sald at hck
  split at hck
  case h_2 => cases hck
  simp only [Bool.and_eq_true, decide_eq_true_eq] at hck
  obtain ⟨rfl, hn⟩ := hck
  rw [hn] at kk
  obtain ⟨hZ, -, -, -, -, -, -, hX, hbZ, -⟩ := hK
  have e1 : ad zS = sb := by rw [q2 zS (Or.inr (by decide)), hA.2]
  show W p l e R s m args below meth c H locs cells slots Q (F0 m (nx k) ls (.int j :: .ref (ad zS) :: _))
  rw [e1]
  exact va_sld hx hb hX (by omega) (by show ¬ Z ≤ sb; omega) q4 (z_in_ok hj) hd kk
noncomputable def zo_slen : zNop := fun sx _ _ _ _ k l st h => match st with
  | .ref i :: st => if i = zS then zn (k + 1) l (.int (Int32.ofNat sx.1) :: st) h else none
  | _ => none
noncomputable def zk_slen : zCk := fun _ _ _ _ pc ins len _ nx k => match ins with
  | .arraylength => decide (len = 1) && decide (nx (k + 1) = pc + 1)
  | _ => false
theorem zs_slen : z_Sn zo_slen zk_slen := by
  intro p l e R s m args below meth c Z D tc adK adV sb sx M nx ad0 n0 C S d Q a b ci k ins len pl hF hK hA hR hd hck lo st h k' lo' st' h' x y hop kc ks hW
  unfold zo_slen at hop
  split at hop
  case h_2 => cases hop
  next i st2 =>
  by_cases hc : i = zS
  case neg => rw [if_neg hc] at hop; cases hop
  rw [if_pos hc] at hop
  subst hc
  obtain ⟨rfl, rfl, rfl, rfl, rfl, rfl⟩ := zn_inj hop
  obtain ⟨hx, hb, hml, hr, hown, hts, -⟩ := hF
  intro ad H locs ls cells slots q1 q2 q3 q4 q5 q6 q7 q8 q9
  have kk := hW ad H locs ls cells slots q1 q2 q3 q4 q5 q6 (z_okC (z_okV_int _ _) (z_okT q7)) q8 q9
  unfold zk_slen at hck
  split at hck
  case h_2 => cases hck
  simp only [Bool.and_eq_true, decide_eq_true_eq] at hck
  obtain ⟨rfl, hn⟩ := hck
  rw [hn] at kk
  obtain ⟨hZ, -, -, -, -, -, -, hX, hbZ, -⟩ := hK
  have e1 : ad zS = sb := by rw [q2 zS (Or.inr (by decide)), hA.2]
  show W p l e R s m args below meth c H locs cells slots Q (F0 m (nx k) ls (.ref (ad zS) :: _))
  rw [e1]
  exact va_slen hx hb hX (by omega) (by show ¬ Z ≤ sb; omega) q4 hd kk
/-! new cells -/
noncomputable def z_new (t : Nat) (n : Nat) : zE := match t with
  | 0 => .inl (0, (n, .inl (fun _ => 0)))
  | 1 => .inl (1, (n, .inl (fun _ => 0)))
  | _ => .inl (2, (n, .inr (.inl (fun _ => 0))))
noncomputable def zo_newa : zNop := fun _ _ a _ _ k l st h => match st with
  | .int n :: st => if ¬ n < 0 ∧ n.toNatClampNeg ≤ 65536 ∧ h.length < zB ∧ a < 3 then some (k + 1, l, .ref h.length :: st, h ++ [z_new a n.toNatClampNeg], 1, n.toNatClampNeg) else none
  | _ => none
noncomputable def zk_newa : zCk := fun _ a _ _ pc ins len pl nx k => match ins with
  | .newarray .int => decide (a = 0) && z_w (.arrayClass .int) (pl.getD 0 0) && decide (len = 2) && decide (nx (k + 1) = pc + 2)
  | .newarray .byte => decide (a = 1) && z_w (.arrayClass .byte) (pl.getD 0 0) && decide (len = 2) && decide (nx (k + 1) = pc + 2)
  | .newarray .long => decide (a = 2) && z_w (.arrayClass .long) (pl.getD 0 0) && decide (len = 2) && decide (nx (k + 1) = pc + 2)
  | _ => false
/-- behind a new cell: the abstract machine's state with one cell more -/
theorem z_W_new {p : Program} {l : Launch} {e : Env} {R : Room} {s : State} {m : MethodId} {args : Array Value} {below : List Frame} {meth : Method} {c : Code} {Z : Nat} {D : va_G} {tc : Nat → ClassId} {M : zMi} {nx : Nat → Nat} {ad0 : Nat → Nat} {n0 C S : Nat} {Q : State → Prop} {k : Nat} {lo : zL} {st : List Value} {h : zH} {x y kc ks : Nat} {E : zE}
    (hW : z_W p l e R s m args below meth c Z D tc M nx ad0 n0 C S Q k lo (.ref h.length :: st) (h ++ [E]) kc ks) {ad : Nat → Nat} {H H1 : Heap} {locs : List Loc} {ls : Array Slot} {cells slots q : Nat}
    (q1 : z_R Z D tc ad h H) (q2 : z_ag n0 ad0 ad) (q3 : n0 ≤ h.length) (q5 : lv_has ls M.2.2.2.1 (z_tl ad lo)) (q6 : ∀ q ∈ lo, z_okV h.length q.2) (q7 : ∀ v ∈ st, z_okV h.length v) (hn : h.length < zB) (hx : ∀ a b : Nat → Nat, z_trE a tc E = z_trE b tc E) (he : z_okE h.length E)
    (g1 : va_P D vwCl (z_ws ad tc h ++ [(q, z_trE ad tc E)]) H1) (g2 : va_D (fun q => Z ≤ q) (z_ws ad tc h ++ [(q, z_trE ad tc E)])) (g3 : va_S (fun q => Z ≤ q) s.heap H1 locs) (q8 : cells + x + kc = C) (q9 : slots + y + ks = S) :
    W p l e R s m args below meth c H1 locs (cells + x) (slots + y) Q (F0 m (nx k) ls (.ref q :: st.map (z_tr ad))) := by
  have hag : z_ag h.length ad (z_up ad h.length q) := z_up.ag hn
  have hlen : h.length ≤ (h ++ [E]).length := by rw [List.length_append]; omega
  have kk := hW (z_up ad h.length q) H1 locs ls (cells + x) (slots + y) (q1.push hn hx he g1 g2) (q2.trans hag q3) (by rw [List.length_append]; omega) g3 (by rw [z_tl_ag hag q6]; exact q5) (fun q hq => (q6 q hq).mono hlen) (z_okC (fun i hi => by cases hi; exact Or.inl (by simp)) (fun v hv => (q7 v hv).mono hlen)) q8 q9
  rw [List.map_cons, z_tr_ref, z_st_ag hag q7] at kk
  have e1 : z_up ad h.length q h.length = q := if_pos rfl
  rw [e1] at kk
  exact kk
theorem z_RA_one {U : State} {a b : ClassId} {ty : FieldType} (h1 : va_RA U a ty) (h2 : va_RA U b ty) : a = b := by
  cases ty with
  | object C =>
    obtain ⟨_, _, _, _, _, e1⟩ := h1
    obtain ⟨_, _, _, _, _, e2⟩ := h2
    exact Option.some.inj (e1.symm.trans e2)
  | _ => exact Option.some.inj (Eq.trans (Eq.symm h1) h2)
theorem zs_newa : z_Sn zo_newa zk_newa := by
  intro p l e R s m args below meth c Z D tc adK adV sb sx M nx ad0 n0 C S d Q a b ci k ins len pl hF hK hA hR hd hck lo st h k' lo' st' h' x y hop kc ks hW
  unfold zo_newa at hop
  split at hop
  case h_2 => cases hop
  next n st2 =>
  by_cases hc : ¬ n < 0 ∧ n.toNatClampNeg ≤ 65536 ∧ h.length < zB ∧ a < 3
  case neg => rw [if_neg hc] at hop; cases hop
  rw [if_pos hc] at hop
  obtain ⟨hn0, hn1, hlen, -⟩ := hc
  simp only [Option.some.injEq, Prod.mk.injEq] at hop
  obtain ⟨rfl, rfl, rfl, rfl, rfl, rfl⟩ := hop
  obtain ⟨hx, hb, hml, hr, hown, hts, -⟩ := hF
  intro ad H locs ls cells slots q1 q2 q3 q4 q5 q6 q7 q8 q9
  unfold zk_newa at hck
  split at hck
  case h_4 => cases hck
  · simp only [Bool.and_eq_true, decide_eq_true_eq] at hck
    obtain ⟨⟨⟨rfl, h1⟩, rfl⟩, hn⟩ := hck
    refine va_newa (atype := .int) (ty := .int) (a0 := (n.toNatClampNeg, .inl (fun _ => 0))) hx hb (hts _ (z_w_in h1)) rfl hK.2.1 q1.1 q1.2.1 q4 (fun q hq => Nat.le_trans hK.1 hq) (fun _ => rfl) hn0 rfl (by show n.toNatClampNeg * 4 ≤ 536870912; omega) (by have := hR.2.2.1; omega) (by have := hR.2.2.2; omega) hd fun q cA H1 g0 g1 g2 g3 => ?_
    have hcA := z_RA_one (hK.2.1.2 0 _ rfl).2 (g0.2 4 _ rfl).2
    subst hcA
    have kk := z_W_new (x := 1) (y := n.toNatClampNeg) (q := q) (cells := cells) (slots := slots) hW q1 q2 q3 q5 q6 (z_okT q7) hlen (fun _ _ => rfl) trivial g1 g2 g3 (by omega) (by omega)
    rw [hn] at kk
    exact kk
  · simp only [Bool.and_eq_true, decide_eq_true_eq] at hck
    obtain ⟨⟨⟨rfl, h1⟩, rfl⟩, hn⟩ := hck
    refine va_newa (atype := .byte) (ty := .byte) (a0 := (n.toNatClampNeg, .inl (fun _ => 0))) hx hb (hts _ (z_w_in h1)) rfl hK.2.1 q1.1 q1.2.1 q4 (fun q hq => Nat.le_trans hK.1 hq) (fun _ => rfl) hn0 rfl (by show n.toNatClampNeg * 1 ≤ 536870912; omega) (by have := hR.2.2.1; omega) (by have := hR.2.2.2; omega) hd fun q cA H1 g0 g1 g2 g3 => ?_
    have hcA := z_RA_one (hK.2.1.2 1 _ rfl).2 (g0.2 4 _ rfl).2
    subst hcA
    have kk := z_W_new (x := 1) (y := n.toNatClampNeg) (q := q) (cells := cells) (slots := slots) hW q1 q2 q3 q5 q6 (z_okT q7) hlen (fun _ _ => rfl) trivial g1 g2 g3 (by omega) (by omega)
    rw [hn] at kk
    exact kk
  · simp only [Bool.and_eq_true, decide_eq_true_eq] at hck
    obtain ⟨⟨⟨rfl, h1⟩, rfl⟩, hn⟩ := hck
    refine va_newa (atype := .long) (ty := .long) (a0 := (n.toNatClampNeg, .inr (.inl (fun _ => 0)))) hx hb (hts _ (z_w_in h1)) rfl hK.2.1 q1.1 q1.2.1 q4 (fun q hq => Nat.le_trans hK.1 hq) (fun _ => rfl) hn0 rfl (by show n.toNatClampNeg * 8 ≤ 536870912; omega) (by have := hR.2.2.1; omega) (by have := hR.2.2.2; omega) hd fun q cA H1 g0 g1 g2 g3 => ?_
    have hcA := z_RA_one (hK.2.1.2 2 _ rfl).2 (g0.2 4 _ rfl).2
    subst hcA
    have kk := z_W_new (x := 1) (y := n.toNatClampNeg) (q := q) (cells := cells) (slots := slots) hW q1 q2 q3 q5 q6 (z_okT q7) hlen (fun _ _ => rfl) trivial g1 g2 g3 (by omega) (by omega)
    rw [hn] at kk
    exact kk
noncomputable def zo_anew : zNop := fun _ _ _ _ _ k l st h => match st with
  | .int n :: st => if ¬ n < 0 ∧ n.toNatClampNeg ≤ 65536 ∧ h.length < zB then some (k + 1, l, .ref h.length :: st, h ++ [.inl (3, (n.toNatClampNeg, .inr (.inr (.inr (.inr (fun _ => none))))))], 1, n.toNatClampNeg) else none
  | _ => none
noncomputable def zk_anew : zCk := fun M _ _ _ pc ins len pl nx k => match ins with
  | .anewarray idx => z_w (.classLink M.1 idx RX2) (pl.getD 0 0) && decide (len = 3) && decide (nx (k + 1) = pc + 3)
  | _ => false
theorem zs_anew : z_Sn zo_anew zk_anew := by
  intro p l e R s m args below meth c Z D tc adK adV sb sx M nx ad0 n0 C S d Q a b ci k ins len pl hF hK hA hR hd hck lo st h k' lo' st' h' x y hop kc ks hW
  unfold zo_anew at hop
  split at hop
  case h_2 => cases hop
  next n st2 =>
  by_cases hc : ¬ n < 0 ∧ n.toNatClampNeg ≤ 65536 ∧ h.length < zB
  case neg => rw [if_neg hc] at hop; cases hop
  rw [if_pos hc] at hop
  obtain ⟨hn0, hn1, hlen⟩ := hc
  simp only [Option.some.injEq, Prod.mk.injEq] at hop
  obtain ⟨rfl, rfl, rfl, rfl, rfl, rfl⟩ := hop
  obtain ⟨hx, hb, hml, hr, hown, hts, -⟩ := hF
  intro ad H locs ls cells slots q1 q2 q3 q4 q5 q6 q7 q8 q9
  unfold zk_anew at hck
  split at hck
  case h_2 => cases hck
  next idx =>
  simp only [Bool.and_eq_true, decide_eq_true_eq] at hck
  obtain ⟨⟨h1, rfl⟩, hn⟩ := hck
  refine va_newq hx hb hown (hts _ (z_w_in h1)) hK.2.2.2.2.2.2.1 hK.2.1 q1.1 q1.2.1 q4 (fun q hq => Nat.le_trans hK.1 hq) hn0 rfl (by omega) (by have := hR.2.2.1; omega) (by have := hR.2.2.2; omega) hd fun q cA H1 g0 g1 g2 g3 => ?_
  have hcA := z_RA_one (hK.2.1.2 3 _ rfl).2 (g0.2 4 _ rfl).2
  subst hcA
  have kk := z_W_new (x := 1) (y := n.toNatClampNeg) (q := q) (cells := cells) (slots := slots) hW q1 q2 q3 q5 q6 (z_okT q7) hlen (fun _ _ => rfl) (fun _ _ h9 => by cases h9) g1 g2 g3 (by omega) (by omega)
  rw [hn] at kk
  exact kk
theorem z_df_tr (ad : Nat → Nat) : ∀ ci, (z_df.getD ci []).map (z_tr ad) = z_df.getD ci [] := by
  intro ci
  match ci with
  | 0 | 1 | 2 | 3 | 4 | 5 | 6 | 7 | 8 | 9 => rfl
  | n + 10 => simp [z_df]
theorem z_df_ok (n : Nat) : ∀ ci, ∀ v ∈ z_df.getD ci [], z_okV n v := by
  have h : z_df.all (fun l => l.all (fun v => match v with | .ref _ => false | _ => true)) = true := by decide
  intro ci v hv
  intro i hi
  subst hi
  cases hc : z_df[ci]? with
  | none => simp [List.getD, hc] at hv
  | some l =>
    rw [List.getD, hc] at hv
    have h1 := List.all_eq_true.mp h l (List.mem_of_getElem? hc)
    have h2 := List.all_eq_true.mp h1 _ hv
    cases h2
noncomputable def zo_new : zNop := fun _ _ a _ _ k l st h => if h.length < zB then (match vwCl[a]? with
  | some q => some (k + 1, l, .ref h.length :: st, h ++ [.inr (a, z_df.getD a [])], 1, q.2.2)
  | none => none) else none
noncomputable def zk_new : zCk := fun M a _ _ pc ins len pl nx k => match ins with
  | .new idx => decide (len = 3) && decide (nx (k + 1) = pc + 3) && (match vwCl[a]? with
    | some q => z_w (.classLink M.1 idx q.1) (pl.getD 0 0) && z_w (.instantiable q.1 q.2.2) (pl.getD 1 0) && z_w (.initialized q.1) (pl.getD 2 0)
    | none => false)
  | _ => false
theorem zs_new : z_Sn zo_new zk_new := by
  intro p l e R s m args below meth c Z D tc adK adV sb sx M nx ad0 n0 C S d Q a b ci k ins len pl hF hK hA hR hd hck lo st h k' lo' st' h' x y hop kc ks hW
  unfold zo_new at hop
  by_cases hlen : h.length < zB
  case neg => rw [if_neg hlen] at hop; cases hop
  rw [if_pos hlen] at hop
  split at hop
  case h_2 => cases hop
  next q hq =>
  simp only [Option.some.injEq, Prod.mk.injEq] at hop
  obtain ⟨rfl, rfl, rfl, rfl, rfl, rfl⟩ := hop
  obtain ⟨hx, hb, hml, hr, hown, hts, -⟩ := hF
  intro ad H locs ls cells slots q1 q2 q3 q4 q5 q6 q7 q8 q9
  unfold zk_new at hck
  split at hck
  case h_2 => cases hck
  next idx =>
  rw [hq] at hck
  simp only [Bool.and_eq_true, decide_eq_true_eq] at hck
  obtain ⟨⟨rfl, hn⟩, ⟨⟨h1, h2⟩, h3⟩⟩ := hck
  obtain ⟨hin, ty, hty, -, hdf⟩ := z_cls a q hq
  refine va_new (C := q.1) (T := q.2.1) (N := q.2.2) (fs := (z_df.getD a []).map (z_tr ad)) hx hb hts hin ty hty hown (hts _ (z_w_in h1)) (hts _ (z_w_in h2)) (hts _ (z_w_in h3)) hK.2.1 q1.1 q1.2.1 q4 (fun q hq => Nat.le_trans hK.1 hq) hq (by rw [z_df_tr]; exact hdf) (by have := hR.2.2.1; omega) (by have := hR.2.2.2; omega) hd fun qa H1 g1 g2 g3 => ?_
  have kk := z_W_new (x := 1) (y := q.2.2) (q := qa) (cells := cells) (slots := slots) hW q1 q2 q3 q5 q6 q7 hlen (fun x y => by show Sum.inr (a, _) = Sum.inr (a, _); rw [z_df_tr, z_df_tr]) (z_df_ok _ a) g1 g2 g3 (by omega) (by omega)
  rw [hn] at kk
  exact kk
