section
/-! the last switch -/
noncomputable def z_lkr : List (Int × Nat) → Nat → Int → Nat
  | [], d, _ => d
  | (a, n) :: r, d, k => if a = k then n else z_lkr r d k
noncomputable def zo_lsw2 : zNop := fun _ _ a _ _ _ l st h => match st with
  | .int x :: st => match z_lk[a]? with
    | some t => zn (z_lkr t.1 t.2 x.toInt) l st h
    | none => none
  | _ => none
noncomputable def zk_lsw2 : zCk := fun _ a _ _ pc ins _ _ nx _ => match ins with
  | .lookupswitch dflt ps => match z_lk[a]? with
    | some t => decide ((pc : Int) + dflt = (nx t.2 : Int)) && decide (ps.toList.map (fun q => (q.1, (pc : Int) + q.2)) = t.1.map (fun q => (q.1, (nx q.2 : Int)))) && (ps.toList.zip (ps.toList.drop 1)).all (fun (a, next) => a.1 < next.1)
    | none => false
  | _ => false
theorem z_lkr_ok (nx : Nat → Nat) (pc : Nat) (d : Nat) (dflt key : Int) (hdf : (pc : Int) + dflt = (nx d : Int)) : ∀ (ps : List (Int × Int)) (t : List (Int × Nat)), ps.map (fun q => (q.1, (pc : Int) + q.2)) = t.map (fun q => (q.1, (nx q.2 : Int))) → (pc : Int) + Op.lookupswitch.offset ps dflt key = (nx (z_lkr t d key) : Int)
  | [], [], _ => hdf
  | [], _ :: _, h => by simp at h
  | _ :: _, [], h => by simp at h
  | (a, o) :: ps, (b, n) :: t, h => by
    simp only [List.map_cons, List.cons.injEq, Prod.mk.injEq] at h
    obtain ⟨⟨h1, h2⟩, h3⟩ := h
    subst h1
    rw [Op.lookupswitch.offset_cons, z_lkr]
    by_cases hk : a = key
    · rw [if_pos hk, if_pos hk]; exact h2
    · rw [if_neg hk, if_neg hk]; exact z_lkr_ok nx pc d dflt key hdf ps t h3
theorem zs_lsw2 : z_Sn zo_lsw2 zk_lsw2 := by
  intro p l e R s m args below meth c Z D tc adK adV sb sx M nx ad0 n0 C S d Q a b ci k ins len pl hF hK hA hR hd hck lo st h k' lo' st' h' x y hop kc ks hW
  unfold zo_lsw2 at hop
  split at hop
  case h_2 => cases hop
  next vx st2 =>
  split at hop
  case h_2 => cases hop
  next t ht =>
  obtain ⟨rfl, rfl, rfl, rfl, rfl, rfl⟩ := zn_inj hop
  obtain ⟨hx, hb, hml, hr, hown, hts, -⟩ := hF
  intro ad H locs ls cells slots q1 q2 q3 q4 q5 q6 q7 q8 q9
  have kk := hW ad H locs ls cells slots q1 q2 q3 q4 q5 q6 (z_okT q7) q8 q9
  unfold zk_lsw2 at hck
  split at hck
  case h_2 => cases hck
  next dflt ps =>
  rw [ht] at hck
  simp only [Bool.and_eq_true, decide_eq_true_eq] at hck
  obtain ⟨⟨h1, h2⟩, h3⟩ := hck
  exact lv_lookup hx hb hd h3 rfl (z_lkr_ok nx (nx k) t.2 dflt vx.toInt h1 ps.toList t.1 h2) kk
/-! the classes of the objects -/
theorem z_pl {ws : List Cond} (ps : List Nat) (hl : ws.length = ps.length) (h : (ws.zip ps).all (fun q => z_w q.1 q.2) = true) : ∀ w ∈ ws, w ∈ z_T := by
  intro w hw
  obtain ⟨i, hi, he⟩ := List.mem_iff_getElem.mp hw
  have hz : (w, ps[i]'(by omega)) ∈ ws.zip ps := by
    rw [← he]
    exact List.mem_iff_getElem.mpr ⟨i, by rw [List.length_zip]; omega, by simp⟩
  exact z_w_in (List.all_eq_true.mp h _ hz)
noncomputable def z_clsP (ci : Nat) (q : vw_C) : Prop := (∀ w ∈ u_ws q.1 q.2.1 q.2.2, w ∈ z_T) ∧ ∃ ty : Nat → FieldType, (∀ k, k < q.2.2 → parseFieldDescriptor (q.2.1 k).2.2.1 = some (ty k)) ∧ (∀ a, a < q.2.2 → ∀ b, b < q.2.2 → a ≠ b → (q.2.1 a).2.1 ≠ (q.2.1 b).2.1) ∧ ∀ j, j < q.2.2 → defaultValue (ty j) = vp_V (z_df.getD ci []) j
theorem z_cls0 : z_clsP 0 (RX1, TX1, 5) := ⟨z_pl z_lp0 rfl (by decide +kernel), tyX1, tyX1_ok, nmX1, by decide +kernel⟩
theorem z_cls1 : z_clsP 1 (RX2, TX2, 18) := ⟨z_pl z_lp1 rfl (by decide +kernel), tyX2, tyX2_ok, nmX2, by decide +kernel⟩
theorem z_cls2 : z_clsP 2 (RX3, TX3, 6) := ⟨z_pl z_lp2 rfl (by decide +kernel), tyX3, tyX3_ok, nmX3, by decide +kernel⟩
theorem z_cls3 : z_clsP 3 (RX4, TX4, 6) := ⟨z_pl z_lp3 rfl (by decide +kernel), tyX4, tyX4_ok, nmX4, by decide +kernel⟩
theorem z_cls4 : z_clsP 4 (RX5, TX5, 3) := ⟨z_pl z_lp4 rfl (by decide +kernel), tyX5, tyX5_ok, nmX5, by decide +kernel⟩
theorem z_cls5 : z_clsP 5 (RX6, TX6, 3) := ⟨z_pl z_lp5 rfl (by decide +kernel), tyX6, tyX6_ok, nmX6, by decide +kernel⟩
theorem z_cls6 : z_clsP 6 (RX8, TX8, 4) := ⟨z_pl z_lp6 rfl (by decide +kernel), tyX8, tyX8_ok, nmX8, by decide +kernel⟩
theorem z_cls7 : z_clsP 7 (RX9, TX9, 4) := ⟨z_pl z_lp7 rfl (by decide +kernel), tyX9, tyX9_ok, nmX9, by decide +kernel⟩
theorem z_cls8 : z_clsP 8 (RX11, TX11, 8) := ⟨z_pl z_lp8 rfl (by decide +kernel), tyX11, tyX11_ok, nmX11, by decide +kernel⟩
theorem z_cls9 : z_clsP 9 (RX12, TX12, 23) := ⟨z_pl z_lp9 rfl (by decide +kernel), tyX12, tyX12_ok, nmX12, by decide +kernel⟩
theorem z_cls : ∀ (ci : Nat) (q : vw_C), vwCl[ci]? = some q → z_clsP ci q
  | 0, q, h => by cases h; exact z_cls0
  | 1, q, h => by cases h; exact z_cls1
  | 2, q, h => by cases h; exact z_cls2
  | 3, q, h => by cases h; exact z_cls3
  | 4, q, h => by cases h; exact z_cls4
  | 5, q, h => by cases h; exact z_cls5
  | 6, q, h => by cases h; exact z_cls6
  | 7, q, h => by cases h; exact z_cls7
  | 8, q, h => by cases h; exact z_cls8
  | 9, q, h => by cases h; exact z_cls9
  | n + 10, q, h => by simp [vwCl] at h
/-! fields -/
noncomputable def zo_get : zNop := fun _ _ a b _ k l st h => match st with
  | .ref i :: st => match h[i]? with
    | some (.inr (c, fs)) => if c = a then (match fs[b]? with | some v => zn (k + 1) l (v :: st) h | none => none) else none
    | _ => none
  | _ => none
noncomputable def zk_get : zCk := fun M a b _ pc ins len pl nx k => match ins with
  | .getfield idx => decide (len = 3) && decide (nx (k + 1) = pc + 3) && (match vwCl[a]? with
    | some q => decide (b < q.2.2) && z_w (.fieldLink M.1 idx (q.2.1 b).1 (q.2.1 b).2.1 (q.2.1 b).2.2.1) (pl.getD 0 0)
    | none => false)
  | _ => false
theorem z_R_fs {Z : Nat} {D : va_G} {tc : Nat → ClassId} {ad : Nat → Nat} {h : zH} {H : Heap} (hR : z_R Z D tc ad h H) {i c : Nat} {fs : List Value} (he : h[i]? = some (.inr (c, fs))) {v : Value} (hv : v ∈ fs) : z_okV h.length v := hR.2.2.1 _ (List.mem_of_getElem? he) v hv
theorem zs_get : z_Sn zo_get zk_get := by
  intro p l e R s m args below meth c Z D tc adK adV sb sx M nx ad0 n0 C S d Q a b ci k ins len pl hF hK hA hR hd hck lo st h k' lo' st' h' x y hop kc ks hW
  unfold zo_get at hop
  split at hop
  case h_2 => cases hop
  next i st2 =>
  split at hop
  case h_2 => cases hop
  next c' fs he =>
  by_cases hca : c' = a
  case neg => rw [if_neg hca] at hop; cases hop
  rw [if_pos hca] at hop
  subst hca
  split at hop
  case h_2 => cases hop
  next v hv =>
  obtain ⟨rfl, rfl, rfl, rfl, rfl, rfl⟩ := zn_inj hop
  obtain ⟨hx, hb, hml, hr, hown, hts, -⟩ := hF
  intro ad H locs ls cells slots q1 q2 q3 q4 q5 q6 q7 q8 q9
  have kk := hW ad H locs ls cells slots q1 q2 q3 q4 q5 q6 (z_okC (z_R_fs q1 he (List.mem_of_getElem? hv)) (z_okT q7)) q8 q9
  unfold zk_get at hck
  split at hck
  case h_2 => cases hck
  next idx =>
  simp only [Bool.and_eq_true, decide_eq_true_eq] at hck
  obtain ⟨⟨rfl, hn⟩, hck⟩ := hck
  rw [hn] at kk
  split at hck
  case h_2 => cases hck
  next q hq =>
  simp only [Bool.and_eq_true, decide_eq_true_eq] at hck
  obtain ⟨h1, h2⟩ := hck
  exact va_get (C := q.1) (T := q.2.1) (N := q.2.2) hx hb hts (z_cls c' q hq).1 hown hK.2.1 q1.1 i (z_ws_get he) hq b h1 (hts _ (z_w_in h2)) (fun _ h9 => h9) (v := z_tr ad v) (by rw [List.getElem?_map, hv]; rfl) hd kk
/-- what a field of kind c (0 int, 1 boolean, 2 reference) may hold -/
noncomputable def z_fit (c : Int) (v : Value) : Bool := match v with
  | .int x => decide (c = 0) || (decide (c = 1) && (decide (x = 0) || decide (x = 1)))
  | .ref _ => decide (c = 2)
  | .null => decide (c = 2)
  | _ => false
noncomputable def z_kind (c : Int) (t : Option FieldType) : Bool := match t with
  | some .int => decide (c = 0)
  | some .boolean => decide (c = 1)
  | some (.object _) => decide (c = 2)
  | some (.array _) => decide (c = 2)
  | _ => false
theorem z_fit_ok {c : Int} {v : Value} {ty : FieldType} (ad : Nat → Nat) (h : z_fit c v = true) (hk : z_kind c (some ty) = true) : narrow ty (z_tr ad v) = z_tr ad v ∧ fits ty (z_tr ad v) = true := by
  cases ty <;> simp only [z_kind, decide_eq_true_eq, Bool.false_eq_true] at hk <;> subst hk <;> cases v <;> simp [z_fit] at h <;> simp [z_tr, narrow, fits]
  rcases h with rfl | rfl <;> decide
noncomputable def zo_put : zNop := fun _ _ a b c k l st h => match st with
  | v :: .ref i :: st => match h[i]? with
    | some (.inr (c', fs)) => if c' = a ∧ b < fs.length ∧ z_fit c v = true then zn (k + 1) l st (h.set i (.inr (c', fs.set b v))) else none
    | _ => none
  | _ => none
noncomputable def zk_put : zCk := fun M a b c pc ins len pl nx k => match ins with
  | .putfield idx => decide (len = 3) && decide (nx (k + 1) = pc + 3) && (match vwCl[a]? with
    | some q => decide (b < q.2.2) && z_w (.fieldLink M.1 idx (q.2.1 b).1 (q.2.1 b).2.1 (q.2.1 b).2.2.1) (pl.getD 0 0) && z_kind c (parseFieldDescriptor (q.2.1 b).2.2.1) && (!(q.2.1 b).2.2.2 || (decide (M.2.1.name = "<init>") && decide ((q.2.1 b).1 = M.1)))
    | none => false)
  | _ => false
theorem zs_put : z_Sn zo_put zk_put := by
  intro p l e R s m args below meth c Z D tc adK adV sb sx M nx ad0 n0 C S d Q a b ci k ins len pl hF hK hA hR hd hck lo st h k' lo' st' h' x y hop kc ks hW
  unfold zo_put at hop
  split at hop
  case h_2 => cases hop
  next v i st2 =>
  split at hop
  case h_2 => cases hop
  next c' fs he =>
  by_cases hca : c' = a ∧ b < fs.length ∧ z_fit ci v = true
  case neg => rw [if_neg hca] at hop; cases hop
  rw [if_pos hca] at hop
  obtain ⟨rfl, hbl, hft⟩ := hca
  obtain ⟨rfl, rfl, rfl, rfl, rfl, rfl⟩ := zn_inj hop
  obtain ⟨hx, hb, hml, hr, hown, hts, -, -, hnm⟩ := hF
  intro ad H locs ls cells slots q1 q2 q3 q4 q5 q6 q7 q8 q9
  unfold zk_put at hck
  split at hck
  case h_2 => cases hck
  next idx =>
  simp only [Bool.and_eq_true, decide_eq_true_eq] at hck
  obtain ⟨⟨rfl, hn⟩, hck⟩ := hck
  split at hck
  case h_2 => cases hck
  next q hq =>
  simp only [Bool.and_eq_true, decide_eq_true_eq] at hck
  obtain ⟨⟨⟨h1, h2⟩, h3⟩, h4⟩ := hck
  obtain ⟨ty, hty, hnd, -⟩ := (z_cls c' q hq).2
  have hty1 := hty b h1
  rw [hty1] at h3
  obtain ⟨f1, f2⟩ := z_fit_ok ad hft h3
  have fin : ∀ (H1 : Heap) (locs1 : List Loc), va_P D vwCl ((z_ws ad tc h).set i (ad i, .inr (c', (fs.map (z_tr ad)).set b (z_tr ad v)))) H1 → va_D (fun q => Z ≤ q) ((z_ws ad tc h).set i (ad i, .inr (c', (fs.map (z_tr ad)).set b (z_tr ad v)))) → va_S (fun q => Z ≤ q) s.heap H1 locs1 → W p l e R s m args below meth c H1 locs1 cells slots Q (F0 m (nx k + 3) ls (st'.map (z_tr ad))) := by
    intro H1 locs1 g1 g2 g3
    rw [← List.map_set] at g1 g2
    have okE : z_okE h.length (.inr (c', fs.set b v)) := fun w hw => by
      rcases List.mem_or_eq_of_mem_set hw with z | z
      · exact z_R_fs q1 he z
      · rw [z]; exact z_ok1 q7
    have kk := hW ad H1 locs1 ls cells slots (q1.set (e := .inr (c', fs.set b v)) g1 g2 okE) q2 (by rw [List.length_set]; exact q3) g3 q5 (by rw [List.length_set]; exact q6) (by rw [List.length_set]; exact z_okT (z_okT q7)) q8 q9
    rw [hn] at kk
    exact kk
  by_cases hfin : (q.2.1 b).2.2.2 = true
  · rw [hfin] at h4
    simp only [Bool.not_true, Bool.false_or, Bool.and_eq_true, decide_eq_true_eq] at h4
    exact va_putF (C := q.1) (T := q.2.1) (N := q.2.2) hx hb hts (z_cls c' q hq).1 ty hty hnd hown hK.2.1 q1.1 q1.2.1 q4 i (z_ws_get he) hq b h1 (hts _ (z_w_in h2)) (fun _ h9 => h9) hfin (by rw [hnm]; exact h4.1) h4.2 hty1 f1 f2 (by rw [List.length_map]; exact hbl) hd fin
  · exact va_put (C := q.1) (T := q.2.1) (N := q.2.2) hx hb hts (z_cls c' q hq).1 ty hty hnd hown hK.2.1 q1.1 q1.2.1 q4 i (z_ws_get he) hq b h1 (hts _ (z_w_in h2)) (fun _ h9 => h9) (by simpa using hfin) hty1 f1 f2 (by rw [List.length_map]; exact hbl) hd fin
end
section
/-! arrays -/
noncomputable def z_in (i : Int32) (n : Nat) : Bool := !(decide (i < 0) || decide (n ≤ i.toNatClampNeg))
theorem z_in_ok {i : Int32} {n : Nat} (h : z_in i n = true) : vp_in i n := by
  unfold z_in at h
  simp only [Bool.not_eq_true', Bool.or_eq_false_iff, decide_eq_false_iff_not] at h
  exact fun q => q.elim h.1 h.2
noncomputable def zo_iald : zNop := fun _ _ _ _ _ k l st h => match st with
  | .int j :: .ref i :: st => match h[i]? with
    | some (.inl (0, (n, .inl f))) => if z_in j n = true then zn (k + 1) l (.int (f j.toNatClampNeg) :: st) h else none
    | _ => none
  | _ => none
noncomputable def zk_iald : zCk := fun _ _ _ _ pc ins len _ nx k => match ins with
  | .iaload => decide (len = 1) && decide (nx (k + 1) = pc + 1)
  | _ => false
theorem zs_iald : z_Sn zo_iald zk_iald := by
  intro p l e R s m args below meth c Z D tc adK adV sb sx M nx ad0 n0 C S d Q a b ci k ins len pl hF hK hA hR hd hck lo st h k' lo' st' h' x y hop kc ks hW
  unfold zo_iald at hop
  split at hop
  case h_2 => cases hop
  next j i st2 =>
  split at hop
  case h_2 => cases hop
  next n f he =>
  by_cases hj : z_in j n = true
  case neg => rw [if_neg hj] at hop; cases hop
  rw [if_pos hj] at hop
  obtain ⟨rfl, rfl, rfl, rfl, rfl, rfl⟩ := zn_inj hop
  obtain ⟨hx, hb, hml, hr, hown, hts, -⟩ := hF
  intro ad H locs ls cells slots q1 q2 q3 q4 q5 q6 q7 q8 q9
  have kk := hW ad H locs ls cells slots q1 q2 q3 q4 q5 q6 (z_okC (z_okV_int _ _) (z_okT (z_okT q7))) q8 q9
  unfold zk_iald at hck
  split at hck
  case h_2 => cases hck
  simp only [Bool.and_eq_true, decide_eq_true_eq] at hck
  obtain ⟨rfl, hn⟩ := hck
  rw [hn] at kk
  
  exact va_iald hx hb hK.2.1 q1.1 i 0 (z_ws_get he) rfl (z_in_ok hj) hd kk
noncomputable def zo_bald : zNop := fun _ _ _ _ _ k l st h => match st with
  | .int j :: .ref i :: st => match h[i]? with
    | some (.inl (1, (n, .inl f))) => if z_in j n = true then zn (k + 1) l (.int (f j.toNatClampNeg) :: st) h else none
    | _ => none
  | _ => none
noncomputable def zk_bald : zCk := fun _ _ _ _ pc ins len _ nx k => match ins with
  | .baload => decide (len = 1) && decide (nx (k + 1) = pc + 1)
  | _ => false
theorem zs_bald : z_Sn zo_bald zk_bald := by
  intro p l e R s m args below meth c Z D tc adK adV sb sx M nx ad0 n0 C S d Q a b ci k ins len pl hF hK hA hR hd hck lo st h k' lo' st' h' x y hop kc ks hW
  unfold zo_bald at hop
  split at hop
  case h_2 => cases hop
  next j i st2 =>
  split at hop
  case h_2 => cases hop
  next n f he =>
  by_cases hj : z_in j n = true
  case neg => rw [if_neg hj] at hop; cases hop
  rw [if_pos hj] at hop
  obtain ⟨rfl, rfl, rfl, rfl, rfl, rfl⟩ := zn_inj hop
  obtain ⟨hx, hb, hml, hr, hown, hts, -⟩ := hF
  intro ad H locs ls cells slots q1 q2 q3 q4 q5 q6 q7 q8 q9
  have kk := hW ad H locs ls cells slots q1 q2 q3 q4 q5 q6 (z_okC (z_okV_int _ _) (z_okT (z_okT q7))) q8 q9
  unfold zk_bald at hck
  split at hck
  case h_2 => cases hck
  simp only [Bool.and_eq_true, decide_eq_true_eq] at hck
  obtain ⟨rfl, hn⟩ := hck
  rw [hn] at kk
  
  exact va_bald hx hb hK.2.1 q1.1 i 1 (z_ws_get he) rfl (z_in_ok hj) hd kk
noncomputable def zo_lald : zNop := fun _ _ _ _ _ k l st h => match st with
  | .int j :: .ref i :: st => match h[i]? with
    | some (.inl (2, (n, .inr (.inl f)))) => if z_in j n = true then zn (k + 1) l (.long (f j.toNatClampNeg) :: st) h else none
    | _ => none
  | _ => none
noncomputable def zk_lald : zCk := fun _ _ _ _ pc ins len _ nx k => match ins with
  | .laload => decide (len = 1) && decide (nx (k + 1) = pc + 1)
  | _ => false
theorem zs_lald : z_Sn zo_lald zk_lald := by
  intro p l e R s m args below meth c Z D tc adK adV sb sx M nx ad0 n0 C S d Q a b ci k ins len pl hF hK hA hR hd hck lo st h k' lo' st' h' x y hop kc ks hW
  unfold zo_lald at hop
  split at hop
  case h_2 => cases hop
  next j i st2 =>
  split at hop
  case h_2 => cases hop
  next n f he =>
  by_cases hj : z_in j n = true
  case neg => rw [if_neg hj] at hop; cases hop
  rw [if_pos hj] at hop
  obtain ⟨rfl, rfl, rfl, rfl, rfl, rfl⟩ := zn_inj hop
  obtain ⟨hx, hb, hml, hr, hown, hts, -⟩ := hF
  intro ad H locs ls cells slots q1 q2 q3 q4 q5 q6 q7 q8 q9
  have kk := hW ad H locs ls cells slots q1 q2 q3 q4 q5 q6 (z_okC (z_okV_long _ _) (z_okT (z_okT q7))) q8 q9
  unfold zk_lald at hck
  split at hck
  case h_2 => cases hck
  simp only [Bool.and_eq_true, decide_eq_true_eq] at hck
  obtain ⟨rfl, hn⟩ := hck
  rw [hn] at kk
  
  exact va_lald hx hb hK.2.1 q1.1 i 2 (z_ws_get he) rfl (z_in_ok hj) hd kk
theorem z_rf_tr (ad : Nat → Nat) (r : Option Nat) : va_rf (r.map ad) = z_tr ad (va_rf r) := by cases r <;> rfl
noncomputable def zo_aald : zNop := fun _ _ _ _ _ k l st h => match st with
  | .int j :: .ref i :: st => match h[i]? with
    | some (.inl (3, (n, .inr (.inr (.inr (.inr f)))))) => if z_in j n = true then zn (k + 1) l (va_rf (f j.toNatClampNeg) :: st) h else none
    | _ => none
  | _ => none
noncomputable def zk_aald : zCk := fun _ _ _ _ pc ins len _ nx k => match ins with
  | .aaload => decide (len = 1) && decide (nx (k + 1) = pc + 1)
  | _ => false
theorem zs_aald : z_Sn zo_aald zk_aald := by
  intro p l e R s m args below meth c Z D tc adK adV sb sx M nx ad0 n0 C S d Q a b ci k ins len pl hF hK hA hR hd hck lo st h k' lo' st' h' x y hop kc ks hW
  unfold zo_aald at hop
  split at hop
  case h_2 => cases hop
  next j i st2 =>
  split at hop
  case h_2 => cases hop
  next n f he =>
  by_cases hj : z_in j n = true
  case neg => rw [if_neg hj] at hop; cases hop
  rw [if_pos hj] at hop
  obtain ⟨rfl, rfl, rfl, rfl, rfl, rfl⟩ := zn_inj hop
  obtain ⟨hx, hb, hml, hr, hown, hts, -⟩ := hF
  intro ad H locs ls cells slots q1 q2 q3 q4 q5 q6 q7 q8 q9
  have hok : z_okV h'.length (va_rf (f j.toNatClampNeg)) := by
    have h0 : ∀ j i, f j = some i → i < h'.length := q1.2.2.1 _ (List.mem_of_getElem? he)
    cases hf : f j.toNatClampNeg with
    | none => exact z_okV_null _
    | some i9 => exact fun z hz => by cases hz; exact Or.inl (h0 _ _ hf)
  have kk := hW ad H locs ls cells slots q1 q2 q3 q4 q5 q6 (z_okC hok (z_okT (z_okT q7))) q8 q9
  unfold zk_aald at hck
  split at hck
  case h_2 => cases hck
  simp only [Bool.and_eq_true, decide_eq_true_eq] at hck
  obtain ⟨rfl, hn⟩ := hck
  rw [hn, List.map_cons, ← z_rf_tr] at kk
  exact va_aldq hx hb hK.2.1 q1.1 i 3 (z_ws_get he) rfl (z_in_ok hj) hd kk
noncomputable def zo_iast : zNop := fun _ _ _ _ _ k l st h => match st with
  | .int v :: .int j :: .ref i :: st => match h[i]? with
    | some (.inl (0, (n, .inl f))) => if z_in j n = true then zn (k + 1) l st (h.set i (.inl (0, (n, .inl (upd f j.toNatClampNeg v))))) else none
    | _ => none
  | _ => none
noncomputable def zk_iast : zCk := fun _ _ _ _ pc ins len _ nx k => match ins with
  | .iastore => decide (len = 1) && decide (nx (k + 1) = pc + 1)
  | _ => false
theorem zs_iast : z_Sn zo_iast zk_iast := by
  intro p l e R s m args below meth c Z D tc adK adV sb sx M nx ad0 n0 C S d Q a b ci k ins len pl hF hK hA hR hd hck lo st h k' lo' st' h' x y hop kc ks hW
  unfold zo_iast at hop
  split at hop
  case h_2 => cases hop
  next v j i st2 =>
  split at hop
  case h_2 => cases hop
  next n f he =>
  by_cases hj : z_in j n = true
  case neg => rw [if_neg hj] at hop; cases hop
  rw [if_pos hj] at hop
  obtain ⟨rfl, rfl, rfl, rfl, rfl, rfl⟩ := zn_inj hop
  obtain ⟨hx, hb, hml, hr, hown, hts, -⟩ := hF
  intro ad H locs ls cells slots q1 q2 q3 q4 q5 q6 q7 q8 q9
  unfold zk_iast at hck
  split at hck
  case h_2 => cases hck
  simp only [Bool.and_eq_true, decide_eq_true_eq] at hck
  obtain ⟨rfl, hn⟩ := hck
  refine va_iast hx hb hK.2.1 q1.1 q1.2.1 q4 i 0 (z_ws_get he) rfl (z_in_ok hj) hd fun H1 locs1 g1 g2 g3 => ?_
  have kk := hW ad H1 locs1 ls cells slots (q1.set (e := .inl (0, (n, .inl (upd f j.toNatClampNeg v)))) g1 g2 trivial) q2 (by rw [List.length_set]; exact q3) g3 q5 (by rw [List.length_set]; exact q6) (by rw [List.length_set]; exact z_okT (z_okT (z_okT q7))) q8 q9
  rw [hn] at kk
  exact kk
noncomputable def zo_bast : zNop := fun _ _ _ _ _ k l st h => match st with
  | .int v :: .int j :: .ref i :: st => match h[i]? with
    | some (.inl (1, (n, .inl f))) => if z_in j n = true then zn (k + 1) l st (h.set i (.inl (1, (n, .inl (upd f j.toNatClampNeg (vp_nar .byte v)))))) else none
    | _ => none
  | _ => none
noncomputable def zk_bast : zCk := fun _ _ _ _ pc ins len _ nx k => match ins with
  | .bastore => decide (len = 1) && decide (nx (k + 1) = pc + 1)
  | _ => false
theorem zs_bast : z_Sn zo_bast zk_bast := by
  intro p l e R s m args below meth c Z D tc adK adV sb sx M nx ad0 n0 C S d Q a b ci k ins len pl hF hK hA hR hd hck lo st h k' lo' st' h' x y hop kc ks hW
  unfold zo_bast at hop
  split at hop
  case h_2 => cases hop
  next v j i st2 =>
  split at hop
  case h_2 => cases hop
  next n f he =>
  by_cases hj : z_in j n = true
  case neg => rw [if_neg hj] at hop; cases hop
  rw [if_pos hj] at hop
  obtain ⟨rfl, rfl, rfl, rfl, rfl, rfl⟩ := zn_inj hop
  obtain ⟨hx, hb, hml, hr, hown, hts, -⟩ := hF
  intro ad H locs ls cells slots q1 q2 q3 q4 q5 q6 q7 q8 q9
  unfold zk_bast at hck
  split at hck
  case h_2 => cases hck
  simp only [Bool.and_eq_true, decide_eq_true_eq] at hck
  obtain ⟨rfl, hn⟩ := hck
  refine va_bast hx hb hK.2.1 q1.1 q1.2.1 q4 i 1 (z_ws_get he) rfl (z_in_ok hj) hd fun H1 locs1 g1 g2 g3 => ?_
  have kk := hW ad H1 locs1 ls cells slots (q1.set (e := .inl (1, (n, .inl (upd f j.toNatClampNeg (vp_nar .byte v))))) g1 g2 trivial) q2 (by rw [List.length_set]; exact q3) g3 q5 (by rw [List.length_set]; exact q6) (by rw [List.length_set]; exact z_okT (z_okT (z_okT q7))) q8 q9
  rw [hn] at kk
  exact kk
noncomputable def zo_last : zNop := fun _ _ _ _ _ k l st h => match st with
  | .long v :: .int j :: .ref i :: st => match h[i]? with
    | some (.inl (2, (n, .inr (.inl f)))) => if z_in j n = true then zn (k + 1) l st (h.set i (.inl (2, (n, .inr (.inl (vp_updL f j.toNatClampNeg v)))))) else none
    | _ => none
  | _ => none
noncomputable def zk_last : zCk := fun _ _ _ _ pc ins len _ nx k => match ins with
  | .lastore => decide (len = 1) && decide (nx (k + 1) = pc + 1)
  | _ => false
theorem zs_last : z_Sn zo_last zk_last := by
  intro p l e R s m args below meth c Z D tc adK adV sb sx M nx ad0 n0 C S d Q a b ci k ins len pl hF hK hA hR hd hck lo st h k' lo' st' h' x y hop kc ks hW
  unfold zo_last at hop
  split at hop
  case h_2 => cases hop
  next v j i st2 =>
  split at hop
  case h_2 => cases hop
  next n f he =>
  by_cases hj : z_in j n = true
  case neg => rw [if_neg hj] at hop; cases hop
  rw [if_pos hj] at hop
  obtain ⟨rfl, rfl, rfl, rfl, rfl, rfl⟩ := zn_inj hop
  obtain ⟨hx, hb, hml, hr, hown, hts, -⟩ := hF
  intro ad H locs ls cells slots q1 q2 q3 q4 q5 q6 q7 q8 q9
  unfold zk_last at hck
  split at hck
  case h_2 => cases hck
  simp only [Bool.and_eq_true, decide_eq_true_eq] at hck
  obtain ⟨rfl, hn⟩ := hck
  refine va_last hx hb hK.2.1 q1.1 q1.2.1 q4 i 2 (z_ws_get he) rfl (z_in_ok hj) hd fun H1 locs1 g1 g2 g3 => ?_
  have kk := hW ad H1 locs1 ls cells slots (q1.set (e := .inl (2, (n, .inr (.inl (vp_updL f j.toNatClampNeg v))))) g1 g2 trivial) q2 (by rw [List.length_set]; exact q3) g3 q5 (by rw [List.length_set]; exact q6) (by rw [List.length_set]; exact z_okT (z_okT (z_okT q7))) q8 q9
  rw [hn] at kk
  exact kk
noncomputable def zo_aast : zNop := fun _ _ _ _ _ k l st h => match st with
  | .ref v :: .int j :: .ref i :: st => match h[i]?, h[v]? with
    | some (.inl (3, (n, .inr (.inr (.inr (.inr f)))))), some (.inr (1, _)) => if z_in j n = true then zn (k + 1) l st (h.set i (.inl (3, (n, .inr (.inr (.inr (.inr (va_up f j.toNatClampNeg (some v))))))))) else none
    | _, _ => none
  | _ => none
noncomputable def zk_aast : zCk := fun _ _ _ _ pc ins len _ nx k => match ins with
  | .aastore => decide (len = 1) && decide (nx (k + 1) = pc + 1)
  | _ => false
theorem z_trA_up (ad : Nat → Nat) (f : Nat → Option Nat) (j v : Nat) : (fun q => (va_up f j (some v) q).map ad) = va_up (fun q => (f q).map ad) j (some (ad v)) := by
  funext q
  unfold va_up
  by_cases h : q = j
  · rw [if_pos h, if_pos h]; rfl
  · rw [if_neg h, if_neg h]
theorem zs_aast : z_Sn zo_aast zk_aast := by
  intro p l e R s m args below meth c Z D tc adK adV sb sx M nx ad0 n0 C S d Q a b ci k ins len pl hF hK hA hR hd hck lo st h k' lo' st' h' x y hop kc ks hW
  unfold zo_aast at hop
  split at hop
  case h_2 => cases hop
  next v j i st2 =>
  split at hop
  case h_2 => cases hop
  next n f fs he hv =>
  by_cases hj : z_in j n = true
  case neg => rw [if_neg hj] at hop; cases hop
  rw [if_pos hj] at hop
  obtain ⟨rfl, rfl, rfl, rfl, rfl, rfl⟩ := zn_inj hop
  obtain ⟨hx, hb, hml, hr, hown, hts, -⟩ := hF
  intro ad H locs ls cells slots q1 q2 q3 q4 q5 q6 q7 q8 q9
  unfold zk_aast at hck
  split at hck
  case h_2 => cases hck
  simp only [Bool.and_eq_true, decide_eq_true_eq] at hck
  obtain ⟨rfl, hn⟩ := hck
  refine va_astq hx hb hK.2.1 q1.1 q1.2.1 q4 i 3 v 1 (r := (RX2, TX2, 18)) (z_ws_get he) rfl (z_ws_get hv) rfl (z_in_ok hj) hd fun H1 locs1 g1 g2 g3 => ?_
  have okE : z_okE h.length (.inl (3, (n, .inr (.inr (.inr (.inr (va_up f j.toNatClampNeg (some v)))))))) := by
    have h0 : ∀ j i, f j = some i → i < h.length := q1.2.2.1 _ (List.mem_of_getElem? he)
    intro q i9 hq
    unfold va_up at hq
    by_cases hqj : q = j.toNatClampNeg
    · rw [if_pos hqj] at hq
      cases hq
      exact (List.getElem?_eq_some_iff.mp hv).1
    · rw [if_neg hqj] at hq
      exact h0 q i9 hq
  rw [← z_trA_up] at g1 g2
  have kk := hW ad H1 locs1 ls cells slots (q1.set (e := .inl (3, (n, .inr (.inr (.inr (.inr (va_up f j.toNatClampNeg (some v)))))))) g1 g2 okE) q2 (by rw [List.length_set]; exact q3) g3 q5 (by rw [List.length_set]; exact q6) (by rw [List.length_set]; exact z_okT (z_okT (z_okT q7))) q8 q9
  rw [hn] at kk
  exact kk
noncomputable def zo_alen : zNop := fun _ _ _ _ _ k l st h => match st with
  | .ref i :: st => match h[i]? with
    | some (.inl (t, (n, _))) => if t < 4 then zn (k + 1) l (.int (Int32.ofNat n) :: st) h else none
    | _ => none
  | _ => none
noncomputable def zk_alen : zCk := fun _ _ _ _ pc ins len _ nx k => match ins with
  | .arraylength => decide (len = 1) && decide (nx (k + 1) = pc + 1)
  | _ => false
theorem z_trA_len (ad : Nat → Nat) (a : vp_A) : (z_trA ad a).1 = a.1 := by
  obtain ⟨n, f | f | f | f | f⟩ := a <;> rfl
theorem z_tys_at (tc : Nat → ClassId) {t : Nat} (h : t < 4) : ∃ ty, (z_tys tc)[t]? = some (tc t, ty) := by
  match t, h with
  | 0, _ => exact ⟨_, rfl⟩
  | 1, _ => exact ⟨_, rfl⟩
  | 2, _ => exact ⟨_, rfl⟩
  | 3, _ => exact ⟨_, rfl⟩
theorem zs_alen : z_Sn zo_alen zk_alen := by
  intro p l e R s m args below meth c Z D tc adK adV sb sx M nx ad0 n0 C S d Q a b ci k ins len pl hF hK hA hR hd hck lo st h k' lo' st' h' x y hop kc ks hW
  unfold zo_alen at hop
  split at hop
  case h_2 => cases hop
  next i st2 =>
  split at hop
  case h_2 => cases hop
  next t n f he =>
  by_cases ht : t < 4
  case neg => rw [if_neg ht] at hop; cases hop
  rw [if_pos ht] at hop
  obtain ⟨rfl, rfl, rfl, rfl, rfl, rfl⟩ := zn_inj hop
  obtain ⟨hx, hb, hml, hr, hown, hts, -⟩ := hF
  intro ad H locs ls cells slots q1 q2 q3 q4 q5 q6 q7 q8 q9
  have kk := hW ad H locs ls cells slots q1 q2 q3 q4 q5 q6 (z_okC (z_okV_int _ _) (z_okT q7)) q8 q9
  unfold zk_alen at hck
  split at hck
  case h_2 => cases hck
  simp only [Bool.and_eq_true, decide_eq_true_eq] at hck
  obtain ⟨rfl, hn⟩ := hck
  rw [hn] at kk
  obtain ⟨ty, hty⟩ := z_tys_at tc ht
  exact va_alen hx hb hK.2.1 q1.1 i t (z_ws_get he) hty (by rw [z_trA_len]) hd kk
/-! the script -/
noncomputable def zo_sald : zNop := fun sx _ _ _ _ k l st h => match st with
  | .int j :: .ref i :: st => if i = zS ∧ z_in j sx.1 = true then zn (k + 1) l (.int (sx.2 j.toNatClampNeg) :: st) h else none
  | _ => none
noncomputable def zk_sald : zCk := fun _ _ _ _ pc ins len _ nx k => match ins with
  | .iaload => decide (len = 1) && decide (nx (k + 1) = pc + 1)
  | _ => false
theorem zs_sald : z_Sn zo_sald zk_sald := by
  intro p l e R s m args below meth c Z D tc adK adV sb sx M nx ad0 n0 C S d Q a b ci k ins len pl hF hK hA hR hd hck lo st h k' lo' st' h' x y hop kc ks hW
  unfold zo_sald at hop
  split at hop
  case h_2 => cases hop
  next j i st2 =>
  by_cases hc : i = zS ∧ z_in j sx.1 = true
  case neg => rw [if_neg hc] at hop; cases hop
  rw [if_pos hc] at hop
  obtain ⟨rfl, hj⟩ := hc
  obtain ⟨rfl, rfl, rfl, rfl, rfl, rfl⟩ := zn_inj hop
  obtain ⟨hx, hb, hml, hr, hown, hts, -⟩ := hF
  intro ad H locs ls cells slots q1 q2 q3 q4 q5 q6 q7 q8 q9
  have kk := hW ad H locs ls cells slots q1 q2 q3 q4 q5 q6 (z_okC (z_okV_int _ _) (z_okT (z_okT q7))) q8 q9
  unfold zk_sald at hck
  split at hck
  case h_2 => cases hck
  simp only [Bool.and_eq_true, decide_eq_true_eq] at hck
  obtain ⟨rfl, hn⟩ := hck
  rw [hn] at kk
  obtain ⟨hZ, -, -, -, -, -, -, hX, hbZ, -⟩ := hK
  have e1 : ad zS = sb := by rw [q2 zS (Or.inr (by decide)), hA.2]
  show W p l e R s m args below meth c H locs cells slots Q (F0 m (nx k) ls (.int j :: .ref (ad zS) :: _))
  rw [e1]
  exact va_sld hx hb hX (by omega) (by show ¬ Z ≤ sb; omega) q4 (z_in_ok hj) hd kk
noncomputable def zo_slen : zNop := fun sx _ _ _ _ k l st h => match st with
  | .ref i :: st => if i = zS then zn (k + 1) l (.int (Int32.ofNat sx.1) :: st) h else none
  | _ => none
noncomputable def zk_slen : zCk := fun _ _ _ _ pc ins len _ nx k => match ins with
  | .arraylength => decide (len = 1) && decide (nx (k + 1) = pc + 1)
  | _ => false
theorem zs_slen : z_Sn zo_slen zk_slen := by
  intro p l e R s m args below meth c Z D tc adK adV sb sx M nx ad0 n0 C S d Q a b ci k ins len pl hF hK hA hR hd hck lo st h k' lo' st' h' x y hop kc ks hW
  unfold zo_slen at hop
  split at hop
  case h_2 => cases hop
  next i st2 =>
  by_cases hc : i = zS
  case neg => rw [if_neg hc] at hop; cases hop
  rw [if_pos hc] at hop
  subst hc
  obtain ⟨rfl, rfl, rfl, rfl, rfl, rfl⟩ := zn_inj hop
  obtain ⟨hx, hb, hml, hr, hown, hts, -⟩ := hF
  intro ad H locs ls cells slots q1 q2 q3 q4 q5 q6 q7 q8 q9
  have kk := hW ad H locs ls cells slots q1 q2 q3 q4 q5 q6 (z_okC (z_okV_int _ _) (z_okT q7)) q8 q9
  unfold zk_slen at hck
  split at hck
  case h_2 => cases hck
  simp only [Bool.and_eq_true, decide_eq_true_eq] at hck
  obtain ⟨rfl, hn⟩ := hck
  rw [hn] at kk
  obtain ⟨hZ, -, -, -, -, -, -, hX, hbZ, -⟩ := hK
  have e1 : ad zS = sb := by rw [q2 zS (Or.inr (by decide)), hA.2]
  show W p l e R s m args below meth c H locs cells slots Q (F0 m (nx k) ls (.ref (ad zS) :: _))
  rw [e1]
  exact va_slen hx hb hX (by omega) (by show ¬ Z ≤ sb; omega) q4 hd kk
/-! new cells -/
noncomputable def z_new (t : Nat) (n : Nat) : zE := match t with
  | 0 => .inl (0, (n, .inl (fun _ => 0)))
  | 1 => .inl (1, (n, .inl (fun _ => 0)))
  | _ => .inl (2, (n, .inr (.inl (fun _ => 0))))
noncomputable def zo_newa : zNop := fun _ _ a _ _ k l st h => match st with
  | .int n :: st => if ¬ n < 0 ∧ n.toNatClampNeg ≤ 65536 ∧ h.length < zB ∧ a < 3 then some (k + 1, l, .ref h.length :: st, h ++ [z_new a n.toNatClampNeg], 1, n.toNatClampNeg) else none
  | _ => none
noncomputable def zk_newa : zCk := fun _ a _ _ pc ins len pl nx k => match ins with
  | .newarray .int => decide (a = 0) && z_w (.arrayClass .int) (pl.getD 0 0) && decide (len = 2) && decide (nx (k + 1) = pc + 2)
  | .newarray .byte => decide (a = 1) && z_w (.arrayClass .byte) (pl.getD 0 0) && decide (len = 2) && decide (nx (k + 1) = pc + 2)
  | .newarray .long => decide (a = 2) && z_w (.arrayClass .long) (pl.getD 0 0) && decide (len = 2) && decide (nx (k + 1) = pc + 2)
  | _ => false
/-- behind a new cell: the abstract machine's state with one cell more -/
theorem z_W_new {p : Program} {l : Launch} {e : Env} {R : Room} {s : State} {m : MethodId} {args : Array Value} {below : List Frame} {meth : Method} {c : Code} {Z : Nat} {D : va_G} {tc : Nat → ClassId} {M : zMi} {nx : Nat → Nat} {ad0 : Nat → Nat} {n0 C S : Nat} {Q : State → Prop} {k : Nat} {lo : zL} {st : List Value} {h : zH} {x y kc ks : Nat} {E : zE}
    (hW : z_W p l e R s m args below meth c Z D tc M nx ad0 n0 C S Q k lo (.ref h.length :: st) (h ++ [E]) kc ks) {ad : Nat → Nat} {H H1 : Heap} {locs : List Loc} {ls : Array Slot} {cells slots q : Nat}
    (q1 : z_R Z D tc ad h H) (q2 : z_ag n0 ad0 ad) (q3 : n0 ≤ h.length) (q5 : lv_has ls M.2.2.2.1 (z_tl ad lo)) (q6 : ∀ q ∈ lo, z_okV h.length q.2) (q7 : ∀ v ∈ st, z_okV h.length v) (hn : h.length < zB) (hx : ∀ a b : Nat → Nat, z_trE a tc E = z_trE b tc E) (he : z_okE h.length E)
    (g1 : va_P D vwCl (z_ws ad tc h ++ [(q, z_trE ad tc E)]) H1) (g2 : va_D (fun q => Z ≤ q) (z_ws ad tc h ++ [(q, z_trE ad tc E)])) (g3 : va_S (fun q => Z ≤ q) s.heap H1 locs) (q8 : cells + x + kc = C) (q9 : slots + y + ks = S) :
    W p l e R s m args below meth c H1 locs (cells + x) (slots + y) Q (F0 m (nx k) ls (.ref q :: st.map (z_tr ad))) := by
  have hag : z_ag h.length ad (z_up ad h.length q) := z_up.ag hn
  have hlen : h.length ≤ (h ++ [E]).length := by rw [List.length_append]; omega
  have kk := hW (z_up ad h.length q) H1 locs ls (cells + x) (slots + y) (q1.push hn hx he g1 g2) (q2.trans hag q3) (by rw [List.length_append]; omega) g3 (by rw [z_tl_ag hag q6]; exact q5) (fun q hq => (q6 q hq).mono hlen) (z_okC (fun i hi => by cases hi; exact Or.inl (by simp)) (fun v hv => (q7 v hv).mono hlen)) q8 q9
  rw [List.map_cons, z_tr_ref, z_st_ag hag q7] at kk
  have e1 : z_up ad h.length q h.length = q := if_pos rfl
  rw [e1] at kk
  exact kk
theorem z_RA_one {U : State} {a b : ClassId} {ty : FieldType} (h1 : va_RA U a ty) (h2 : va_RA U b ty) : a = b := by
  cases ty with
  | object C =>
    obtain ⟨_, _, _, _, _, e1⟩ := h1
    obtain ⟨_, _, _, _, _, e2⟩ := h2
    exact Option.some.inj (e1.symm.trans e2)
  | _ => exact Option.some.inj (Eq.trans (Eq.symm h1) h2)
theorem zs_newa : z_Sn zo_newa zk_newa := by
  intro p l e R s m args below meth c Z D tc adK adV sb sx M nx ad0 n0 C S d Q a b ci k ins len pl hF hK hA hR hd hck lo st h k' lo' st' h' x y hop kc ks hW
  unfold zo_newa at hop
  split at hop
  case h_2 => cases hop
  next n st2 =>
  by_cases hc : ¬ n < 0 ∧ n.toNatClampNeg ≤ 65536 ∧ h.length < zB ∧ a < 3
  case neg => rw [if_neg hc] at hop; cases hop
  rw [if_pos hc] at hop
  obtain ⟨hn0, hn1, hlen, -⟩ := hc
  simp only [Option.some.injEq, Prod.mk.injEq] at hop
  obtain ⟨rfl, rfl, rfl, rfl, rfl, rfl⟩ := hop
  obtain ⟨hx, hb, hml, hr, hown, hts, -⟩ := hF
  intro ad H locs ls cells slots q1 q2 q3 q4 q5 q6 q7 q8 q9
  unfold zk_newa at hck
  split at hck
  case h_4 => cases hck
  · simp only [Bool.and_eq_true, decide_eq_true_eq] at hck
    obtain ⟨⟨⟨rfl, h1⟩, rfl⟩, hn⟩ := hck
    refine va_newa (atype := .int) (ty := .int) (a0 := (n.toNatClampNeg, .inl (fun _ => 0))) hx hb (hts _ (z_w_in h1)) rfl hK.2.1 q1.1 q1.2.1 q4 (fun q hq => Nat.le_trans hK.1 hq) (fun _ => rfl) hn0 rfl (by show n.toNatClampNeg * 4 ≤ 536870912; omega) (by have := hR.2.2.1; omega) (by have := hR.2.2.2; omega) hd fun q cA H1 g0 g1 g2 g3 => ?_
    have hcA := z_RA_one (hK.2.1.2 0 _ rfl).2 (g0.2 4 _ rfl).2
    subst hcA
    have kk := z_W_new (x := 1) (y := n.toNatClampNeg) (q := q) (cells := cells) (slots := slots) hW q1 q2 q3 q5 q6 (z_okT q7) hlen (fun _ _ => rfl) trivial g1 g2 g3 (by omega) (by omega)
    rw [hn] at kk
    exact kk
  · simp only [Bool.and_eq_true, decide_eq_true_eq] at hck
    obtain ⟨⟨⟨rfl, h1⟩, rfl⟩, hn⟩ := hck
    refine va_newa (atype := .byte) (ty := .byte) (a0 := (n.toNatClampNeg, .inl (fun _ => 0))) hx hb (hts _ (z_w_in h1)) rfl hK.2.1 q1.1 q1.2.1 q4 (fun q hq => Nat.le_trans hK.1 hq) (fun _ => rfl) hn0 rfl (by show n.toNatClampNeg * 1 ≤ 536870912; omega) (by have := hR.2.2.1; omega) (by have := hR.2.2.2; omega) hd fun q cA H1 g0 g1 g2 g3 => ?_
    have hcA := z_RA_one (hK.2.1.2 1 _ rfl).2 (g0.2 4 _ rfl).2
    subst hcA
    have kk := z_W_new (x := 1) (y := n.toNatClampNeg) (q := q) (cells := cells) (slots := slots) hW q1 q2 q3 q5 q6 (z_okT q7) hlen (fun _ _ => rfl) trivial g1 g2 g3 (by omega) (by omega)
    rw [hn] at kk
    exact kk
  · simp only [Bool.and_eq_true, decide_eq_true_eq] at hck
    obtain ⟨⟨⟨rfl, h1⟩, rfl⟩, hn⟩ := hck
    refine va_newa (atype := .long) (ty := .long) (a0 := (n.toNatClampNeg, .inr (.inl (fun _ => 0)))) hx hb (hts _ (z_w_in h1)) rfl hK.2.1 q1.1 q1.2.1 q4 (fun q hq => Nat.le_trans hK.1 hq) (fun _ => rfl) hn0 rfl (by show n.toNatClampNeg * 8 ≤ 536870912; omega) (by have := hR.2.2.1; omega) (by have := hR.2.2.2; omega) hd fun q cA H1 g0 g1 g2 g3 => ?_
    have hcA := z_RA_one (hK.2.1.2 2 _ rfl).2 (g0.2 4 _ rfl).2
    subst hcA
    have kk := z_W_new (x := 1) (y := n.toNatClampNeg) (q := q) (cells := cells) (slots := slots) hW q1 q2 q3 q5 q6 (z_okT q7) hlen (fun _ _ => rfl) trivial g1 g2 g3 (by omega) (by omega)
    rw [hn] at kk
    exact kk
noncomputable def zo_anew : zNop := fun _ _ _ _ _ k l st h => match st with
  | .int n :: st => if ¬ n < 0 ∧ n.toNatClampNeg ≤ 65536 ∧ h.length < zB then some (k + 1, l, .ref h.length :: st, h ++ [.inl (3, (n.toNatClampNeg, .inr (.inr (.inr (.inr (fun _ => none))))))], 1, n.toNatClampNeg) else none
  | _ => none
noncomputable def zk_anew : zCk := fun M _ _ _ pc ins len pl nx k => match ins with
  | .anewarray idx => z_w (.classLink M.1 idx RX2) (pl.getD 0 0) && decide (len = 3) && decide (nx (k + 1) = pc + 3)
  | _ => false
theorem zs_anew : z_Sn zo_anew zk_anew := by
  intro p l e R s m args below meth c Z D tc adK adV sb sx M nx ad0 n0 C S d Q a b ci k ins len pl hF hK hA hR hd hck lo st h k' lo' st' h' x y hop kc ks hW
  unfold zo_anew at hop
  split at hop
  case h_2 => cases hop
  next n st2 =>
  by_cases hc : ¬ n < 0 ∧ n.toNatClampNeg ≤ 65536 ∧ h.length < zB
  case neg => rw [if_neg hc] at hop; cases hop
  rw [if_pos hc] at hop
  obtain ⟨hn0, hn1, hlen⟩ := hc
  simp only [Option.some.injEq, Prod.mk.injEq] at hop
  obtain ⟨rfl, rfl, rfl, rfl, rfl, rfl⟩ := hop
  obtain ⟨hx, hb, hml, hr, hown, hts, -⟩ := hF
  intro ad H locs ls cells slots q1 q2 q3 q4 q5 q6 q7 q8 q9
  unfold zk_anew at hck
  split at hck
  case h_2 => cases hck
  next idx =>
  simp only [Bool.and_eq_true, decide_eq_true_eq] at hck
  obtain ⟨⟨h1, rfl⟩, hn⟩ := hck
  refine va_newq hx hb hown (hts _ (z_w_in h1)) hK.2.2.2.2.2.2.1 hK.2.1 q1.1 q1.2.1 q4 (fun q hq => Nat.le_trans hK.1 hq) hn0 rfl (by omega) (by have := hR.2.2.1; omega) (by have := hR.2.2.2; omega) hd fun q cA H1 g0 g1 g2 g3 => ?_
  have hcA := z_RA_one (hK.2.1.2 3 _ rfl).2 (g0.2 4 _ rfl).2
  subst hcA
  have kk := z_W_new (x := 1) (y := n.toNatClampNeg) (q := q) (cells := cells) (slots := slots) hW q1 q2 q3 q5 q6 (z_okT q7) hlen (fun _ _ => rfl) (fun _ _ h9 => by cases h9) g1 g2 g3 (by omega) (by omega)
  rw [hn] at kk
  exact kk
theorem z_df_tr (ad : Nat → Nat) : ∀ ci, (z_df.getD ci []).map (z_tr ad) = z_df.getD ci [] := by
  intro ci
  match ci with
  | 0 | 1 | 2 | 3 | 4 | 5 | 6 | 7 | 8 | 9 => rfl
  | n + 10 => simp [z_df]
theorem z_df_ok (n : Nat) : ∀ ci, ∀ v ∈ z_df.getD ci [], z_okV n v := by
  have h : z_df.all (fun l => l.all (fun v => match v with | .ref _ => false | _ => true)) = true := by decide
  intro ci v hv
  intro i hi
  subst hi
  cases hc : z_df[ci]? with
  | none => simp [List.getD, hc] at hv
  | some l =>
    rw [List.getD, hc] at hv
    have h1 := List.all_eq_true.mp h l (List.mem_of_getElem? hc)
    have h2 := List.all_eq_true.mp h1 _ hv
    cases h2
noncomputable def zo_new : zNop := fun _ _ a _ _ k l st h => if h.length < zB then (match vwCl[a]? with
  | some q => some (k + 1, l, .ref h.length :: st, h ++ [.inr (a, z_df.getD a [])], 1, q.2.2)
  | none => none) else none
noncomputable def zk_new : zCk := fun M a _ _ pc ins len pl nx k => match ins with
  | .new idx => decide (len = 3) && decide (nx (k + 1) = pc + 3) && (match vwCl[a]? with
    | some q => z_w (.classLink M.1 idx q.1) (pl.getD 0 0) && z_w (.instantiable q.1 q.2.2) (pl.getD 1 0) && z_w (.initialized q.1) (pl.getD 2 0)
    | none => false)
  | _ => false
theorem zs_new : z_Sn zo_new zk_new := by
  intro p l e R s m args below meth c Z D tc adK adV sb sx M nx ad0 n0 C S d Q a b ci k ins len pl hF hK hA hR hd hck lo st h k' lo' st' h' x y hop kc ks hW
  unfold zo_new at hop
  by_cases hlen : h.length < zB
  case neg => rw [if_neg hlen] at hop; cases hop
  rw [if_pos hlen] at hop
  split at hop
  case h_2 => cases hop
  next q hq =>
  simp only [Option.some.injEq, Prod.mk.injEq] at hop
  obtain ⟨rfl, rfl, rfl, rfl, rfl, rfl⟩ := hop
  obtain ⟨hx, hb, hml, hr, hown, hts, -⟩ := hF
  intro ad H locs ls cells slots q1 q2 q3 q4 q5 q6 q7 q8 q9
  unfold zk_new at hck
  split at hck
  case h_2 => cases hck
  next idx =>
  rw [hq] at hck
  simp only [Bool.and_eq_true, decide_eq_true_eq] at hck
  obtain ⟨⟨rfl, hn⟩, ⟨⟨h1, h2⟩, h3⟩⟩ := hck
  obtain ⟨hin, ty, hty, -, hdf⟩ := z_cls a q hq
  refine va_new (C := q.1) (T := q.2.1) (N := q.2.2) (fs := (z_df.getD a []).map (z_tr ad)) hx hb hts hin ty hty hown (hts _ (z_w_in h1)) (hts _ (z_w_in h2)) (hts _ (z_w_in h3)) hK.2.1 q1.1 q1.2.1 q4 (fun q hq => Nat.le_trans hK.1 hq) hq (by rw [z_df_tr]; exact hdf) (by have := hR.2.2.1; omega) (by have := hR.2.2.2; omega) hd fun qa H1 g1 g2 g3 => ?_
  have kk := z_W_new (x := 1) (y := q.2.2) (q := qa) (cells := cells) (slots := slots) hW q1 q2 q3 q5 q6 q7 hlen (fun x y => by show Sum.inr (a, _) = Sum.inr (a, _); rw [z_df_tr, z_df_tr]) (z_df_ok _ a) g1 g2 g3 (by omega) (by omega)
  rw [hn] at kk
  exact kk
end
section
theorem dJ0_length_8abf5_0 : decode cJ0_length_8abf5 0 = .ok (.aload_n 0, 1) := by decide +kernel
theorem dJ0_length_8abf5_1 : decode cJ0_length_8abf5 1 = .ok (.getfield 9, 3) := by decide +kernel
theorem dJ0_length_8abf5_4 : decode cJ0_length_8abf5 4 = .ok (.arraylength, 1) := by decide +kernel
theorem dJ0_length_8abf5_5 : decode cJ0_length_8abf5 5 = .ok (.aload_n 0, 1) := by decide +kernel
theorem dJ0_length_8abf5_6 : decode cJ0_length_8abf5 6 = .ok (.invokevirtual 335, 3) := by decide +kernel
theorem dJ0_length_8abf5_9 : decode cJ0_length_8abf5 9 = .ok (.ishr, 1) := by decide +kernel
theorem dJ0_length_8abf5_10 : decode cJ0_length_8abf5 10 = .ok (.ireturn, 1) := by decide +kernel
theorem dJ0_charAt_5068e_0 : decode cJ0_charAt_5068e 0 = .ok (.aload_n 0, 1) := by decide +kernel
theorem dJ0_charAt_5068e_1 : decode cJ0_charAt_5068e 1 = .ok (.invokevirtual 492, 3) := by decide +kernel
theorem dJ0_charAt_5068e_4 : decode cJ0_charAt_5068e 4 = .ok (.ifCond .eq 12, 3) := by decide +kernel
theorem dJ0_charAt_5068e_7 : decode cJ0_charAt_5068e 7 = .ok (.aload_n 0, 1) := by decide +kernel
theorem dJ0_charAt_5068e_8 : decode cJ0_charAt_5068e 8 = .ok (.getfield 9, 3) := by decide +kernel
theorem dJ0_charAt_5068e_11 : decode cJ0_charAt_5068e 11 = .ok (.iload_n 1, 1) := by decide +kernel
theorem dJ0_charAt_5068e_12 : decode cJ0_charAt_5068e 12 = .ok (.invokestatic 495, 3) := by decide +kernel
theorem dJ0_charAt_5068e_15 : decode cJ0_charAt_5068e 15 = .ok (.ireturn, 1) := by decide +kernel
theorem dJ0_coder_7d493_0 : decode cJ0_coder_7d493 0 = .ok (.getstatic 38, 3) := by decide +kernel
theorem dJ0_coder_7d493_3 : decode cJ0_coder_7d493 3 = .ok (.ifCond .eq 10, 3) := by decide +kernel
theorem dJ0_coder_7d493_6 : decode cJ0_coder_7d493 6 = .ok (.aload_n 0, 1) := by decide +kernel
theorem dJ0_coder_7d493_7 : decode cJ0_coder_7d493 7 = .ok (.getfield 15, 3) := by decide +kernel
theorem dJ0_coder_7d493_10 : decode cJ0_coder_7d493 10 = .ok (.goto 4, 3) := by decide +kernel
theorem dJ0_coder_7d493_14 : decode cJ0_coder_7d493 14 = .ok (.ireturn, 1) := by decide +kernel
theorem dJ0_isLatin1_aae02_0 : decode cJ0_isLatin1_aae02 0 = .ok (.getstatic 38, 3) := by decide +kernel
theorem dJ0_isLatin1_aae02_3 : decode cJ0_isLatin1_aae02 3 = .ok (.ifCond .eq 14, 3) := by decide +kernel
theorem dJ0_isLatin1_aae02_6 : decode cJ0_isLatin1_aae02 6 = .ok (.aload_n 0, 1) := by decide +kernel
theorem dJ0_isLatin1_aae02_7 : decode cJ0_isLatin1_aae02 7 = .ok (.getfield 15, 3) := by decide +kernel
theorem dJ0_isLatin1_aae02_10 : decode cJ0_isLatin1_aae02 10 = .ok (.ifCond .ne 7, 3) := by decide +kernel
theorem dJ0_isLatin1_aae02_13 : decode cJ0_isLatin1_aae02 13 = .ok (.iconst 1, 1) := by decide +kernel
theorem dJ0_isLatin1_aae02_14 : decode cJ0_isLatin1_aae02 14 = .ok (.goto 4, 3) := by decide +kernel
theorem dJ0_isLatin1_aae02_18 : decode cJ0_isLatin1_aae02 18 = .ok (.ireturn, 1) := by decide +kernel
theorem dJ0_checkIndex_df160_0 : decode cJ0_checkIndex_df160 0 = .ok (.iload_n 0, 1) := by decide +kernel
theorem dJ0_checkIndex_df160_1 : decode cJ0_checkIndex_df160 1 = .ok (.iload_n 1, 1) := by decide +kernel
theorem dJ0_checkIndex_df160_2 : decode cJ0_checkIndex_df160 2 = .ok (.getstatic 1053, 3) := by decide +kernel
theorem dJ0_checkIndex_df160_5 : decode cJ0_checkIndex_df160 5 = .ok (.invokestatic 1059, 3) := by decide +kernel
theorem dJ0_checkIndex_df160_8 : decode cJ0_checkIndex_df160 8 = .ok (.pop, 1) := by decide +kernel
theorem dJ0_checkIndex_df160_9 : decode cJ0_checkIndex_df160 9 = .ok (.return_, 1) := by decide +kernel
theorem dJ1_charAt_3b067_0 : decode cJ1_charAt_3b067 0 = .ok (.iload_n 1, 1) := by decide +kernel
theorem dJ1_charAt_3b067_1 : decode cJ1_charAt_3b067 1 = .ok (.aload_n 0, 1) := by decide +kernel
theorem dJ1_charAt_3b067_2 : decode cJ1_charAt_3b067 2 = .ok (.arraylength, 1) := by decide +kernel
theorem dJ1_charAt_3b067_3 : decode cJ1_charAt_3b067 3 = .ok (.invokestatic 9, 3) := by decide +kernel
theorem dJ1_charAt_3b067_6 : decode cJ1_charAt_3b067 6 = .ok (.aload_n 0, 1) := by decide +kernel
theorem dJ1_charAt_3b067_7 : decode cJ1_charAt_3b067 7 = .ok (.iload_n 1, 1) := by decide +kernel
theorem dJ1_charAt_3b067_8 : decode cJ1_charAt_3b067 8 = .ok (.baload, 1) := by decide +kernel
theorem dJ1_charAt_3b067_9 : decode cJ1_charAt_3b067 9 = .ok (.sipush 255, 3) := by decide +kernel
theorem dJ1_charAt_3b067_12 : decode cJ1_charAt_3b067 12 = .ok (.iand, 1) := by decide +kernel
theorem dJ1_charAt_3b067_13 : decode cJ1_charAt_3b067 13 = .ok (.i2c, 1) := by decide +kernel
theorem dJ1_charAt_3b067_14 : decode cJ1_charAt_3b067 14 = .ok (.ireturn, 1) := by decide +kernel
theorem dJ3_checkIndex_8e157_0 : decode cJ3_checkIndex_8e157 0 = .ok (.iload_n 0, 1) := by decide +kernel
theorem dJ3_checkIndex_8e157_1 : decode cJ3_checkIndex_8e157 1 = .ok (.ifCond .lt 8, 3) := by decide +kernel
theorem dJ3_checkIndex_8e157_4 : decode cJ3_checkIndex_8e157 4 = .ok (.iload_n 0, 1) := by decide +kernel
theorem dJ3_checkIndex_8e157_5 : decode cJ3_checkIndex_8e157 5 = .ok (.iload_n 1, 1) := by decide +kernel
theorem dJ3_checkIndex_8e157_6 : decode cJ3_checkIndex_8e157 6 = .ok (.if_icmp .lt 10, 3) := by decide +kernel
theorem dJ3_checkIndex_8e157_16 : decode cJ3_checkIndex_8e157 16 = .ok (.iload_n 0, 1) := by decide +kernel
theorem dJ3_checkIndex_8e157_17 : decode cJ3_checkIndex_8e157 17 = .ok (.ireturn, 1) := by decide +kernel
/-! texts: the JDK's own methods, by contract -/
theorem z_Nc_moved {C T : String} {u U : State} (hvm : u.vm.Alike U.vm) (h : va_Nc C T u) : va_Nc C T U := by
  first
    | exact va_Nc.moved hvm h
    | (obtain ⟨c, t, h1, h2, h3⟩ := h
       exact ⟨c, t, by rw [hvm.findClass]; exact h1, by rw [hvm.findClass]; exact h2, by rw [← hvm.assignable]; exact h3⟩)
/-- the context in a state that has the same tables and, below Z, the same cells -/
theorem z_K.at {l : Launch} {Z : Nat} {D : va_G} {tc : Nat → ClassId} {adK adV : Nat → Nat} {sb : Nat} {sx : zX} {s U : State} {H : Heap} {locs : List Loc} (h : z_K l Z D tc adK adV sb sx s) (hS : va_S (fun q => Z ≤ q) s.heap H locs) (hU : U.heap = H) (hW : s.WarmedH U.vm) : z_K l Z D tc adK adV sb sx U := by
  obtain ⟨h1, h2, h3, h4, h5, h6, h7, h8, h9, h10, h11, h12, h13, h14, h15⟩ := h
  subst hU
  have hvm := hW.alike
  refine ⟨Nat.le_trans h1 hS.1, va_K.moved hvm h2, fun k q hq => ⟨vk_R.warm hW (h3 k q hq).1, (vk_S.moved hvm (h3 k q hq).2).kept hS.2.1⟩, (vx_Zq.moved hvm h4).kept hS.2.1, (vx_Zq.moved hvm h5).kept hS.2.1, fun w hw => ?_, va_AO.moved hvm h7, (va_X.moved hvm h8).kept (hS.2.1 sb (by omega) (by show ¬ Z ≤ sb; omega)), h9, h10, (va_Z.moved hvm h11).kept hS.2.1, (va_Zq.moved hvm h12).kept hS.2.1, va_Nw.warmC hW h13, fun a ha b hb hab => z_Nc_moved hvm (h14 a ha b hb hab), fun w hw => ?_⟩
  rotate_left
  · have h15' := h15 w hw
    simp only [z_xw, List.mem_cons, List.not_mem_nil, or_false] at hw
    rcases hw with rfl | rfl | rfl | rfl | rfl | rfl | rfl | rfl <;> first | exact va_Nw.warmC hW h15' | exact va_Nw.warmD hW h15'
  have h6' := h6 w hw
  simp only [z_nest, List.mem_cons, List.not_mem_nil, or_false] at hw
  rcases hw with rfl | rfl | rfl | rfl | rfl <;> exact va_Nw.warmM hW h6'
theorem z_K.call {l : Launch} {Z : Nat} {D : va_G} {tc : Nat → ClassId} {adK adV : Nat → Nat} {sb : Nat} {sx : zX} {U : State} (g : JFrame) (mk : MethodId) (a : Array Value) (h : z_K l Z D tc adK adV sb sx U) : z_K l Z D tc adK adV sb sx (U.calling g mk a) := by
  obtain ⟨h1, h2, h3, h4, h5, h6, h7, h8, h9, h10, h11, h12, h13, h14, h15⟩ := h
  have hvm : U.vm.Alike (U.calling g mk a).vm := Vm.Alike.refl U.vm
  refine ⟨h1, va_K.moved (u := U) (U := U.calling g mk a) hvm h2, fun k q hq => ⟨vk_R.same (u := U) (U := U.calling g mk a) rfl (h3 k q hq).1, vk_S.moved (u := U) (U := U.calling g mk a) hvm (h3 k q hq).2⟩, vx_Zq.moved (u := U) (U := U.calling g mk a) hvm h4, vx_Zq.moved (u := U) (U := U.calling g mk a) hvm h5, fun w hw => ?_, va_AO.moved (u := U) (U := U.calling g mk a) hvm h7, va_X.moved (u := U) (U := U.calling g mk a) hvm h8, h9, h10, va_Z.moved (u := U) (U := U.calling g mk a) hvm h11, va_Zq.moved (u := U) (U := U.calling g mk a) hvm h12, va_Nw.same rfl (u := U) rfl h13, fun a9 ha b hb hab => z_Nc_moved (u := U) (U := U.calling g mk a) hvm (h14 a9 ha b hb hab), fun w hw => ?_⟩
  rotate_left
  · have h15' := h15 w hw
    simp only [z_xw, List.mem_cons, List.not_mem_nil, or_false] at hw
    rcases hw with rfl | rfl | rfl | rfl | rfl | rfl | rfl | rfl <;> exact va_Nw.same rfl (u := U) rfl h15'
  have h6' := h6 w hw
  simp only [z_nest, List.mem_cons, List.not_mem_nil, or_false] at hw
  rcases hw with rfl | rfl | rfl | rfl | rfl <;> exact va_Nw.same rfl (u := U) rfl h6'
noncomputable def z_P1 (l : Launch) (Z : Nat) (D : va_G) (tc : Nat → ClassId) (adK adV : Nat → Nat) (sb : Nat) (sx : zX) (as : List Value) : Array Value → State → Prop := va_Pc as (fun U => z_K l Z D tc adK adV sb sx U)
noncomputable def z_Qp (r : Option Value) : Array Value → State → Outcome → State → Prop := fun _ st oc t => oc = .returned r ∧ t.heap = st.heap
noncomputable def z_rm (d kc ks : Nat) : Room := { frames := d, cells := kc, slots := ks, locals := 60 * d }
theorem z_good {ws : List Cond} (h : ∀ w ∈ ws, w ∈ z_T) : GoodIn z_T ws := fun w hw => ⟨h w hw, good_of_word (List.mem_filter.mp (h w hw)).2⟩
theorem z_P1_blind {l : Launch} {Z : Nat} {D : va_G} {tc : Nat → ClassId} {adK adV : Nat → Nat} {sb : Nat} {sx : zX} {as : List Value} : FrameBlind (z_P1 l Z D tc adK adV sb sx as) := fun a U g mk q => ⟨q.1, q.2.call g mk a⟩
section ZP
variable {p : Program} {l : Launch} {e : Env} {R : Room} {s : State} {m : MethodId} {args : Array Value} {below : List Frame} {meth : Method} {c : Code} {H : Heap} {locs : List Loc} {cells slots : Nat} {Q : State → Prop} {pc : Nat} {ls : Array Slot} {st0 rest : List Value} {a : Array Value}
/-- a call that leaves the heap as it is -/
theorem z_callp {r : Option Value} (hr : va_Run p l e R s m args below meth c H locs cells slots 0 0 (F0 m pc ls st0) rest (z_Qp r a) (fun _ => False)) (kk : W p l e R s m args below meth c H locs cells slots Q (F0 m (pc + 3) ls (r.toList ++ rest))) : W p l e R s m args below meth c H locs cells slots Q (F0 m pc ls st0) := by
  intro T hT X
  obtain ⟨v, st₀, t, T', L, h0, X', hL, e1, e2, ⟨hv, hh⟩, st⟩ := hr T hT X
  cases hv
  have hL0 : L = [] := by
    cases L with
    | nil => rfl
    | cons q L => exact (hL q List.mem_cons_self).elim
  subst hL0
  rw [List.append_nil] at X'
  obtain ⟨t2, a1, b1⟩ := kk T' (by rw [e1, hh, h0]) X'
  exact ⟨t2, st t2 a1, b1⟩
end ZP
set_option maxHeartbeats 4000000 in
set_option maxRecDepth 100000 in
theorem zc_coder (l : Launch) (Z : Nat) (D : va_G) (tc : Nat → ClassId) (adK adV : Nat → Nat) (sb : Nat) (sx : zX) (k : Nat) (q : String × Nat × String × List Int32) (hq : z_strs[k]? = some q) : Met l yJ0_coder_7d493 (.code yJ0_coder_7d493 cJ0_coder_7d493 1 (some .byte) :: z_T) (z_rm 0 0 0) (z_P1 l Z D tc adK adV sb sx [.ref (adK k)]) (z_Qp (some (.int 0))) 0 0 (fun _ => False) := by
  refine Met.ofW (cc := cJ0_coder_7d493) (maxL := 1) (ret := (some .byte)) (by decide) rfl ?_
  intro p e s m args below meth c s₁ B hml hv
  obtain ⟨rfl, hK⟩ := hv
  have hx := B.exec
  have hb := B.bytes
  have hr := B.returns
  have hts0 := atoms_spec B.pre
  have hts : ∀ w ∈ z_T, w.before _ s = true := fun w hw => hts0 w (List.mem_cons_of_mem _ hw)
  have hown := findClass_of_methodNamed B.named
  have hlocks := B.notSynchronized
  have hS : va_S (fun q => Z ≤ q) s.heap s.heap [] := va_S.rf
  have hl := lv_entry ([.ref (adK k)]) (n := 1) (Nat.le_of_ble_eq_true rfl)
  rw [lg_entry_eq]
  generalize (lg_sl ([.ref (adK k)]) ++ List.replicate (1 - (lg_sl ([.ref (adK k)])).length) Slot.unset).toArray = ls at hl ⊢
  have hSg := (hK.2.2.1 k q hq).2.1 0 (by decide)
  have hl : lv_has ls 1 [(0, .ref (adK k))] := hl
  refine va_gets (pc := 0) hx hb hK.2.2.2.2.2.2.2.2.2.2.1 hS hown (hts (.fieldLink "java/lang/String" 38 "java/lang/String" "COMPACT_STRINGS" "Z") (z_w_in (i := 663) (by decide +kernel))) (fun _ h9 => h9) dJ0_coder_7d493_0 ?_
  refine lv_if_eq (tgt := 13) hx hb dJ0_coder_7d493_3 (by decide) (fun h9 => by cases h9) (fun _ => ?_)
  refine lv_aload_n hx hb (k := 0) (i := 0) dJ0_coder_7d493_6 rfl (lv_at hl 0 rfl) ?_
  refine vk_getf hx hb hSg.2.1 hS hown (hts (.fieldLink "java/lang/String" 15 "java/lang/String" "coder" "B") (z_w_in (i := 2110) (by decide +kernel))) (fun _ h9 => h9) dJ0_coder_7d493_7 ?_
  refine lv_goto (tgt := 14) hx hb dJ0_coder_7d493_10 (by decide) ?_
  exact W.zret hx hb hr rfl (fun t ht _ => ⟨rfl, ht⟩) (fun _ h => by cases h) dJ0_coder_7d493_14
set_option maxHeartbeats 4000000 in
set_option maxRecDepth 100000 in
theorem zc_isLatin1 (l : Launch) (Z : Nat) (D : va_G) (tc : Nat → ClassId) (adK adV : Nat → Nat) (sb : Nat) (sx : zX) (k : Nat) (q : String × Nat × String × List Int32) (hq : z_strs[k]? = some q) : Met l yJ0_isLatin1_aae02 (.code yJ0_isLatin1_aae02 cJ0_isLatin1_aae02 1 (some .boolean) :: z_T) (z_rm 0 0 0) (z_P1 l Z D tc adK adV sb sx [.ref (adK k)]) (z_Qp (some (.int 1))) 0 0 (fun _ => False) := by
  refine Met.ofW (cc := cJ0_isLatin1_aae02) (maxL := 1) (ret := (some .boolean)) (by decide) rfl ?_
  intro p e s m args below meth c s₁ B hml hv
  obtain ⟨rfl, hK⟩ := hv
  have hx := B.exec
  have hb := B.bytes
  have hr := B.returns
  have hts0 := atoms_spec B.pre
  have hts : ∀ w ∈ z_T, w.before _ s = true := fun w hw => hts0 w (List.mem_cons_of_mem _ hw)
  have hown := findClass_of_methodNamed B.named
  have hlocks := B.notSynchronized
  have hS : va_S (fun q => Z ≤ q) s.heap s.heap [] := va_S.rf
  have hl := lv_entry ([.ref (adK k)]) (n := 1) (Nat.le_of_ble_eq_true rfl)
  rw [lg_entry_eq]
  generalize (lg_sl ([.ref (adK k)]) ++ List.replicate (1 - (lg_sl ([.ref (adK k)])).length) Slot.unset).toArray = ls at hl ⊢
  have hSg := (hK.2.2.1 k q hq).2.1 0 (by decide)
  have hl : lv_has ls 1 [(0, .ref (adK k))] := hl
  refine va_gets (pc := 0) hx hb hK.2.2.2.2.2.2.2.2.2.2.1 hS hown (hts (.fieldLink "java/lang/String" 38 "java/lang/String" "COMPACT_STRINGS" "Z") (z_w_in (i := 663) (by decide +kernel))) (fun _ h9 => h9) dJ0_isLatin1_aae02_0 ?_
  refine lv_if_eq (tgt := 17) hx hb dJ0_isLatin1_aae02_3 (by decide) (fun h9 => by cases h9) (fun _ => ?_)
  refine lv_aload_n hx hb (k := 0) (i := 0) dJ0_isLatin1_aae02_6 rfl (lv_at hl 0 rfl) ?_
  refine vk_getf hx hb hSg.2.1 hS hown (hts (.fieldLink "java/lang/String" 15 "java/lang/String" "coder" "B") (z_w_in (i := 2110) (by decide +kernel))) (fun _ h9 => h9) dJ0_isLatin1_aae02_7 ?_
  refine lv_if_ne (tgt := 17) hx hb dJ0_isLatin1_aae02_10 (by decide) (fun h9 => absurd rfl h9) (fun _ => ?_)
  refine lv_iconst (v := 1) hx hb (n := 1) dJ0_isLatin1_aae02_13 (by decide) ?_
  refine lv_goto (tgt := 18) hx hb dJ0_isLatin1_aae02_14 (by decide) ?_
  exact W.zret hx hb hr rfl (fun t ht _ => ⟨rfl, ht⟩) (fun _ h => by cases h) dJ0_isLatin1_aae02_18
/-- the words of a static call -/
theorem z_cwS {R : Room} {s : State} {args : Array Value} {own : String} {index maxL mc ms : Nat} {y : MethodName} {bytes : ByteArray} {ret : Option FieldType} {rm : Room} (n : Nat) (ht : ∀ w ∈ z_T, w.before args s = true) (h1 : Cond.methodLink own index y ∈ z_T) (h2 : Cond.static y ∈ z_T) (h3 : Cond.initialized y.cls ∈ z_T) (h4 : Cond.code y bytes maxL ret ∈ z_T) (hrc : rm.cells = mc) (hrs : rm.slots = ms)
    (hd : y.cls ≠ "java/lang/invoke/MethodHandle" ∧ y.cls ≠ "java/lang/invoke/VarHandle" ∧ (parseMethodDescriptor y.desc).map (fun d => d.parameters.length) = some n) (hR : rm.frames + 1 ≤ R.frames ∧ 8 + (maxL + 11) + rm.locals ≤ R.locals) : CallB R s args own index y bytes maxL ret (.code y bytes maxL ret :: z_T) rm mc ms n ∧ (Cond.static y).before args s = true := by
  have hG : GoodIn z_T (.code y bytes maxL ret :: z_T) := z_good (fun w hw => by
    rcases List.mem_cons.mp hw with rfl | h
    · exact h4
    · exact h)
  exact ⟨callB_of n ht hG rfl hrc hrs (ht _ h3) (ht _ h1) hd hR, ht _ h2⟩
set_option maxHeartbeats 4000000 in
set_option maxRecDepth 100000 in
theorem zc_length (l : Launch) (Z : Nat) (D : va_G) (tc : Nat → ClassId) (adK adV : Nat → Nat) (sb : Nat) (sx : zX) (k : Nat) (q : String × Nat × String × List Int32) (hq : z_strs[k]? = some q) (hlen : q.2.2.2.length < 2 ^ 31) : Met l yJ0_length_8abf5 (.code yJ0_length_8abf5 cJ0_length_8abf5 1 (some .int) :: z_T) (z_rm 1 0 0) (z_P1 l Z D tc adK adV sb sx [.ref (adK k)]) (z_Qp (some (.int (Int32.ofNat q.2.2.2.length)))) 0 0 (fun _ => False) := by
  refine Met.ofW (cc := cJ0_length_8abf5) (maxL := 1) (ret := (some .int)) (by decide) rfl ?_
  intro p e s m args below meth c s₁ B hml hv
  obtain ⟨rfl, hK⟩ := hv
  have hx := B.exec
  have hb := B.bytes
  have hr := B.returns
  have hts0 := atoms_spec B.pre
  have hts : ∀ w ∈ z_T, w.before _ s = true := fun w hw => hts0 w (List.mem_cons_of_mem _ hw)
  have hown := findClass_of_methodNamed B.named
  have hlocks := B.notSynchronized
  have hS : va_S (fun q => Z ≤ q) s.heap s.heap [] := va_S.rf
  have hl := lv_entry ([.ref (adK k)]) (n := 1) (Nat.le_of_ble_eq_true rfl)
  rw [lg_entry_eq]
  generalize (lg_sl ([.ref (adK k)]) ++ List.replicate (1 - (lg_sl ([.ref (adK k)])).length) Slot.unset).toArray = ls at hl ⊢
  have hSg := (hK.2.2.1 k q hq).2.1 0 (by decide)
  have hl : lv_has ls 1 [(0, .ref (adK k))] := hl
  refine lv_aload_n (pc := 0) hx hb (k := 0) (i := 0) dJ0_length_8abf5_0 rfl (lv_at hl 0 rfl) ?_
  refine vk_getf hx hb hSg.2.2.1 hS hown (hts (.fieldLink "java/lang/String" 9 "java/lang/String" "value" "[B") (z_w_in (i := 2109) (by decide +kernel))) (fun _ h9 => h9) dJ0_length_8abf5_1 ?_
  refine va_tlen hx hb hSg.2.2.2 hS (v := Int32.ofNat q.2.2.2.length) rfl dJ0_length_8abf5_4 ?_
  refine lv_aload_n hx hb (k := 0) (i := 0) dJ0_length_8abf5_5 rfl (lv_at hl 0 rfl) ?_
  refine z_callp (va_runV (As := []) (rest := [.int (Int32.ofNat q.2.2.2.length)]) ⟨hx, hb, hml, hown, hts⟩ (zc_coder l Z D tc adK adV sb sx k q hq) (cwV 0 hts (z_good (ws := wsV RJ0 335 RJ0 yJ0_coder_7d493 (.code yJ0_coder_7d493 cJ0_coder_7d493 1 (some .byte) :: z_T)) (fun w hw => by
      rcases List.mem_append.mp hw with h | h
      · simp only [List.mem_cons, List.not_mem_nil, or_false] at h
        rcases h with rfl | rfl | rfl | rfl
        · exact (z_w_in (i := 659) (by decide +kernel))
        · exact (z_w_in (i := 660) (by decide +kernel))
        · exact (z_w_in (i := 661) (by decide +kernel))
        · exact (z_w_in (i := 113) (by decide +kernel))
      · rcases List.mem_cons.mp h with rfl | h
        · exact (z_w_in (i := 662) (by decide +kernel))
        · exact h)) rfl rfl rfl (by decide +kernel) ⟨Nat.le_of_ble_eq_true rfl, Nat.le_of_ble_eq_true rfl⟩) ⟨z_P1_blind, vk_recv (hK.2.2.1 k q hq).2 (i := 0) (by decide) hS, fun U hU hW => ⟨rfl, hK.at hS hU hW⟩⟩ rfl rfl hl.1 rfl (lv_room (Nat.le_of_ble_eq_true rfl)) dJ0_length_8abf5_6 ⟨Nat.zero_le _, Nat.zero_le _⟩) ?_
  refine lv_ishr hx hb dJ0_length_8abf5_9 ?_
  have e9 : Int32.ofNat q.2.2.2.length >>> ((0 : Int32) &&& 31) = Int32.ofNat q.2.2.2.length := by
    have h0 : ((0 : Int32) &&& 31) = 0 := by decide
    rw [h0]
    have := pk_shrN hlen 0 0 (by decide)
    simpa [nI] using this
  rw [e9]
  exact W.iret hx hb hr (fun t ht _ => ⟨rfl, ht⟩) (fun _ h => by cases h) dJ0_length_8abf5_10
set_option maxHeartbeats 4000000 in
set_option maxRecDepth 100000 in
theorem zc_pcheck (l : Launch) (Z : Nat) (D : va_G) (tc : Nat → ClassId) (adK adV : Nat → Nat) (sb : Nat) (sx : zX) (i n : Int32) (f : Value) (hf : f.category = 1) (h0 : ¬ i < 0) (h1 : i < n) : Met l yJ3_checkIndex_8e157 (.code yJ3_checkIndex_8e157 cJ3_checkIndex_8e157 3 (some .int) :: z_T) (z_rm 0 0 0) (z_P1 l Z D tc adK adV sb sx [.int i, .int n, f]) (z_Qp (some (.int i))) 0 0 (fun _ => False) := by
  refine Met.ofW (cc := cJ3_checkIndex_8e157) (maxL := 3) (ret := (some .int)) (by decide) rfl ?_
  intro p e s m args below meth c s₁ B hml hv
  obtain ⟨rfl, hK⟩ := hv
  have hx := B.exec
  have hb := B.bytes
  have hr := B.returns
  have hts0 := atoms_spec B.pre
  have hts : ∀ w ∈ z_T, w.before _ s = true := fun w hw => hts0 w (List.mem_cons_of_mem _ hw)
  have hown := findClass_of_methodNamed B.named
  have hlocks := B.notSynchronized
  have hS : va_S (fun q => Z ≤ q) s.heap s.heap [] := va_S.rf
  have hlf : (lg_sl [Value.int i, Value.int n, f]).length = 3 := by cases f <;> first | rfl | cases hf
  have hl := lv_entry ([.int i, .int n, f]) (n := 3) (by omega)
  rw [lg_entry_eq]
  generalize (lg_sl ([.int i, .int n, f]) ++ List.replicate (3 - (lg_sl ([.int i, .int n, f])).length) Slot.unset).toArray = ls at hl ⊢
  have hl := lv_sub hl [0, 1] (l' := [(0, .int i), (1, .int n)]) rfl
  refine lv_iload_n (pc := 0) hx hb (k := 0) (i := 0) dJ3_checkIndex_8e157_0 rfl (lv_at hl 0 rfl) ?_
  refine lv_if_lt (tgt := 9) hx hb dJ3_checkIndex_8e157_1 (by decide) (fun h9 => absurd h9 h0) (fun _ => ?_)
  refine lv_iload_n hx hb (k := 0) (i := 0) dJ3_checkIndex_8e157_4 rfl (lv_at hl 0 rfl) ?_
  refine lv_iload_n hx hb (k := 1) (i := 1) dJ3_checkIndex_8e157_5 rfl (lv_at hl 1 rfl) ?_
  refine lv_icmp_lt (tgt := 16) hx hb dJ3_checkIndex_8e157_6 (by decide) (fun _ => ?_) (fun h9 => absurd h1 h9)
  refine lv_iload_n hx hb (k := 0) (i := 0) dJ3_checkIndex_8e157_16 rfl (lv_at hl 0 rfl) ?_
  exact W.iret hx hb hr (fun t ht _ => ⟨rfl, ht⟩) (fun _ h => by cases h) dJ3_checkIndex_8e157_17
set_option maxHeartbeats 4000000 in
set_option maxRecDepth 100000 in
theorem zc_check (l : Launch) (Z : Nat) (D : va_G) (tc : Nat → ClassId) (adK adV : Nat → Nat) (sb : Nat) (sx : zX) (i n : Int32) (h0 : ¬ i < 0) (h1 : i < n) : Met l yJ0_checkIndex_df160 (.code yJ0_checkIndex_df160 cJ0_checkIndex_df160 2 none :: z_T) (z_rm 1 0 0) (z_P1 l Z D tc adK adV sb sx [.int i, .int n]) (z_Qp none) 0 0 (fun _ => False) := by
  refine Met.ofW (cc := cJ0_checkIndex_df160) (maxL := 2) (ret := none) (by decide) rfl ?_
  intro p e s m args below meth c s₁ B hml hv
  obtain ⟨rfl, hK⟩ := hv
  have hx := B.exec
  have hb := B.bytes
  have hr := B.returns
  have hts0 := atoms_spec B.pre
  have hts : ∀ w ∈ z_T, w.before _ s = true := fun w hw => hts0 w (List.mem_cons_of_mem _ hw)
  have hown := findClass_of_methodNamed B.named
  have hlocks := B.notSynchronized
  have hS : va_S (fun q => Z ≤ q) s.heap s.heap [] := va_S.rf
  have hl := lv_entry ([.int i, .int n]) (n := 2) (Nat.le_of_ble_eq_true rfl)
  rw [lg_entry_eq]
  generalize (lg_sl ([.int i, .int n]) ++ List.replicate (2 - (lg_sl ([.int i, .int n])).length) Slot.unset).toArray = ls at hl ⊢
  have hl : lv_has ls 2 [(0, .int i), (1, .int n)] := hl
  refine lv_iload_n (pc := 0) hx hb (k := 0) (i := 0) dJ0_checkIndex_df160_0 rfl (lv_at hl 0 rfl) ?_
  refine lv_iload_n hx hb (k := 1) (i := 1) dJ0_checkIndex_df160_1 rfl (lv_at hl 1 rfl) ?_
  have key : ∀ f : Value, f.category = 1 → W p l e (headSpec (.code yJ0_checkIndex_df160 cJ0_checkIndex_df160 2 none :: z_T) (z_rm 1 0 0)).room s m #[Value.int i, Value.int n] below meth c s.heap [] 0 0 (MQ below (z_Qp none) #[Value.int i, Value.int n] s 0 0 (fun _ => False)) (F0 m 5 ls [f, .int n, .int i]) := by
    intro f hf
    refine z_callp (va_runS (As := [.int i, .int n, f]) (rest := []) ⟨hx, hb, hml, hown, hts⟩ (zc_pcheck l Z D tc adK adV sb sx i n f hf h0 h1) (z_cwS 3 hts (y := yJ3_checkIndex_8e157) (bytes := cJ3_checkIndex_8e157) (maxL := 3) (ret := (some .int)) (z_w_in (i := 688) (by decide +kernel)) (z_w_in (i := 689) (by decide +kernel)) (z_w_in (i := 115) (by decide +kernel)) (z_w_in (i := 690) (by decide +kernel)) rfl rfl (by decide +kernel) ⟨Nat.le_of_ble_eq_true rfl, Nat.le_of_ble_eq_true rfl⟩) ⟨z_P1_blind, fun U hU hW => ⟨rfl, hK.at hS hU hW⟩⟩ rfl rfl hl.1 rfl (lv_room (Nat.le_of_ble_eq_true rfl)) dJ0_checkIndex_df160_5 ⟨Nat.zero_le _, Nat.zero_le _⟩) ?_
    refine lv_pop hx hb dJ0_checkIndex_df160_8 rfl ?_
    exact W.vret hx hb hr (fun t ht _ => ⟨rfl, ht⟩) (fun _ h => by cases h) dJ0_checkIndex_df160_9
  rcases hK.2.2.2.2.2.2.2.2.2.2.2.1 with hz | ⟨t, hz⟩
  · exact va_gets hx hb hz hS hown (hts (.fieldLink "java/lang/String" 1053 "jdk/internal/util/Preconditions" "SIOOBE_FORMATTER" "Ljava/util/function/BiFunction;") (z_w_in (i := 686) (by decide +kernel))) (fun _ h9 => h9) dJ0_checkIndex_df160_2 (key _ rfl)
  · exact va_gets hx hb hz hS hown (hts (.fieldLink "java/lang/String" 1053 "jdk/internal/util/Preconditions" "SIOOBE_FORMATTER" "Ljava/util/function/BiFunction;") (z_w_in (i := 686) (by decide +kernel))) (fun _ h9 => h9) dJ0_checkIndex_df160_2 (key _ rfl)
theorem z_and255 (x : Int32) : ∃ n : Nat, n < 256 ∧ x &&& 255 = nI n := by
  have h := pk_and x (m := 255) 8 (by decide)
  exact ⟨_, Nat.mod_lt _ (by decide), h⟩
theorem zt_c2 (x : Int32) : ((x &&& 255).toUInt32 % 65536).toInt32 = x &&& 255 := by
  obtain ⟨n, hn, e⟩ := z_and255 x
  rw [e]
  have h := pk_char (nI n)
  rw [h, pk_tn (by omega), Nat.mod_eq_of_lt (by omega)]
theorem z_nar (x : Int32) : narrow .char (.int (x &&& 255)) = .int (x &&& 255) := by
  obtain ⟨n, hn, e⟩ := z_and255 x
  rw [e]
  exact (pk_charN (by omega)).1
set_option maxHeartbeats 4000000 in
set_option maxRecDepth 100000 in
theorem zc_latin (l : Launch) (Z : Nat) (D : va_G) (tc : Nat → ClassId) (adK adV : Nat → Nat) (sb : Nat) (sx : zX) (k : Nat) (q : String × Nat × String × List Int32) (hq : z_strs[k]? = some q) (hlen : q.2.2.2.length < 2 ^ 31) (j : Nat) (hj : j < q.2.2.2.length) : Met l yJ1_charAt_3b067 (.code yJ1_charAt_3b067 cJ1_charAt_3b067 2 (some .char) :: z_T) (z_rm 2 0 0) (z_P1 l Z D tc adK adV sb sx [.ref (adV k), .int (nI j)]) (z_Qp (some (.int ((q.2.2.2.getD j 0) &&& 255)))) 0 0 (fun _ => False) := by
  refine Met.ofW (cc := cJ1_charAt_3b067) (maxL := 2) (ret := (some .char)) (by decide) rfl ?_
  intro p e s m args below meth c s₁ B hml hv
  obtain ⟨rfl, hK⟩ := hv
  have hx := B.exec
  have hb := B.bytes
  have hr := B.returns
  have hts0 := atoms_spec B.pre
  have hts : ∀ w ∈ z_T, w.before _ s = true := fun w hw => hts0 w (List.mem_cons_of_mem _ hw)
  have hown := findClass_of_methodNamed B.named
  have hlocks := B.notSynchronized
  have hS : va_S (fun q => Z ≤ q) s.heap s.heap [] := va_S.rf
  have hl := lv_entry ([.ref (adV k), .int (nI j)]) (n := 2) (Nat.le_of_ble_eq_true rfl)
  rw [lg_entry_eq]
  generalize (lg_sl ([.ref (adV k), .int (nI j)]) ++ List.replicate (2 - (lg_sl ([.ref (adV k), .int (nI j)])).length) Slot.unset).toArray = ls at hl ⊢
  have hSg := (hK.2.2.1 k q hq).2.1 0 (by decide)
  have hl : lv_has ls 2 [(0, .ref (adV k)), (1, .int (nI j))] := hl
  refine lv_iload_n (pc := 0) hx hb (k := 1) (i := 1) dJ1_charAt_3b067_0 rfl (lv_at hl 1 rfl) ?_
  refine lv_aload_n hx hb (k := 0) (i := 0) dJ1_charAt_3b067_1 rfl (lv_at hl 0 rfl) ?_
  refine va_tlen hx hb hSg.2.2.2 hS (v := nI q.2.2.2.length) rfl dJ1_charAt_3b067_2 ?_
  refine z_callp (va_runS (As := [.int (nI j), .int (nI q.2.2.2.length)]) (rest := []) ⟨hx, hb, hml, hown, hts⟩ (zc_check l Z D tc adK adV sb sx (nI j) (nI q.2.2.2.length) (nI_pos (by omega)) (nI_lt hj hlen)) (z_cwS 2 hts (y := yJ0_checkIndex_df160) (bytes := cJ0_checkIndex_df160) (maxL := 2) (ret := none) (z_w_in (i := 683) (by decide +kernel)) (z_w_in (i := 684) (by decide +kernel)) (z_w_in (i := 113) (by decide +kernel)) (z_w_in (i := 685) (by decide +kernel)) rfl rfl (by decide +kernel) ⟨Nat.le_of_ble_eq_true rfl, Nat.le_of_ble_eq_true rfl⟩) ⟨z_P1_blind, fun U hU hW => ⟨rfl, hK.at hS hU hW⟩⟩ rfl rfl hl.1 rfl (lv_room (Nat.le_of_ble_eq_true rfl)) dJ1_charAt_3b067_3 ⟨Nat.zero_le _, Nat.zero_le _⟩) ?_
  refine lv_aload_n hx hb (k := 0) (i := 0) dJ1_charAt_3b067_6 rfl (lv_at hl 0 rfl) ?_
  refine lv_iload_n hx hb (k := 1) (i := 1) dJ1_charAt_3b067_7 rfl (lv_at hl 1 rfl) ?_
  refine va_tb hx hb hSg.2.2.2 hS (i := nI j) (vp_in_nI hj hlen) (v := .int (q.2.2.2.getD j 0)) (by rw [nI_clamp (by omega)]; rfl) dJ1_charAt_3b067_8 ?_
  refine lv_sipush hx hb (n := 255) (v := 255) dJ1_charAt_3b067_9 (by decide) ?_
  refine lv_iand hx hb dJ1_charAt_3b067_12 ?_
  refine lv_i2c hx hb (v := (q.2.2.2.getD j 0) &&& 255) dJ1_charAt_3b067_13 (zt_c2 _) ?_
  exact W.zret hx hb hr (z_nar _) (fun t ht _ => ⟨rfl, ht⟩) (fun _ h => by cases h) dJ1_charAt_3b067_14
set_option maxHeartbeats 4000000 in
set_option maxRecDepth 100000 in
theorem zc_charAt (l : Launch) (Z : Nat) (D : va_G) (tc : Nat → ClassId) (adK adV : Nat → Nat) (sb : Nat) (sx : zX) (k : Nat) (q : String × Nat × String × List Int32) (hq : z_strs[k]? = some q) (hlen : q.2.2.2.length < 2 ^ 31) (j : Nat) (hj : j < q.2.2.2.length) : Met l yJ0_charAt_5068e (.code yJ0_charAt_5068e cJ0_charAt_5068e 2 (some .char) :: z_T) (z_rm 3 0 0) (z_P1 l Z D tc adK adV sb sx [.ref (adK k), .int (nI j)]) (z_Qp (some (.int ((q.2.2.2.getD j 0) &&& 255)))) 0 0 (fun _ => False) := by
  refine Met.ofW (cc := cJ0_charAt_5068e) (maxL := 2) (ret := (some .char)) (by decide) rfl ?_
  intro p e s m args below meth c s₁ B hml hv
  obtain ⟨rfl, hK⟩ := hv
  have hx := B.exec
  have hb := B.bytes
  have hr := B.returns
  have hts0 := atoms_spec B.pre
  have hts : ∀ w ∈ z_T, w.before _ s = true := fun w hw => hts0 w (List.mem_cons_of_mem _ hw)
  have hown := findClass_of_methodNamed B.named
  have hlocks := B.notSynchronized
  have hS : va_S (fun q => Z ≤ q) s.heap s.heap [] := va_S.rf
  have hl := lv_entry ([.ref (adK k), .int (nI j)]) (n := 2) (Nat.le_of_ble_eq_true rfl)
  rw [lg_entry_eq]
  generalize (lg_sl ([.ref (adK k), .int (nI j)]) ++ List.replicate (2 - (lg_sl ([.ref (adK k), .int (nI j)])).length) Slot.unset).toArray = ls at hl ⊢
  have hSg := (hK.2.2.1 k q hq).2.1 0 (by decide)
  have hl : lv_has ls 2 [(0, .ref (adK k)), (1, .int (nI j))] := hl
  refine lv_aload_n (pc := 0) hx hb (k := 0) (i := 0) dJ0_charAt_5068e_0 rfl (lv_at hl 0 rfl) ?_
  refine z_callp (va_runV (As := []) (rest := []) ⟨hx, hb, hml, hown, hts⟩ (zc_isLatin1 l Z D tc adK adV sb sx k q hq) (cwV 0 hts (z_good (ws := wsV RJ0 492 RJ0 yJ0_isLatin1_aae02 (.code yJ0_isLatin1_aae02 cJ0_isLatin1_aae02 1 (some .boolean) :: z_T)) (fun w hw => by
      rcases List.mem_append.mp hw with h | h
      · simp only [List.mem_cons, List.not_mem_nil, or_false] at h
        rcases h with rfl | rfl | rfl | rfl
        · exact (z_w_in (i := 676) (by decide +kernel))
        · exact (z_w_in (i := 677) (by decide +kernel))
        · exact (z_w_in (i := 678) (by decide +kernel))
        · exact (z_w_in (i := 113) (by decide +kernel))
      · rcases List.mem_cons.mp h with rfl | h
        · exact (z_w_in (i := 679) (by decide +kernel))
        · exact h)) rfl rfl rfl (by decide +kernel) ⟨Nat.le_of_ble_eq_true rfl, Nat.le_of_ble_eq_true rfl⟩) ⟨z_P1_blind, vk_recv (hK.2.2.1 k q hq).2 (i := 0) (by decide) hS, fun U hU hW => ⟨rfl, hK.at hS hU hW⟩⟩ rfl rfl hl.1 rfl (lv_room (Nat.le_of_ble_eq_true rfl)) dJ0_charAt_5068e_1 ⟨Nat.zero_le _, Nat.zero_le _⟩) ?_
  refine lv_if_eq (tgt := 16) hx hb dJ0_charAt_5068e_4 (by decide) (fun h9 => by cases h9) (fun _ => ?_)
  refine lv_aload_n hx hb (k := 0) (i := 0) dJ0_charAt_5068e_7 rfl (lv_at hl 0 rfl) ?_
  refine vk_getf hx hb hSg.2.2.1 hS hown (hts (.fieldLink "java/lang/String" 9 "java/lang/String" "value" "[B") (z_w_in (i := 2109) (by decide +kernel))) (fun _ h9 => h9) dJ0_charAt_5068e_8 ?_
  refine lv_iload_n hx hb (k := 1) (i := 1) dJ0_charAt_5068e_11 rfl (lv_at hl 1 rfl) ?_
  refine z_callp (va_runS (As := [.ref (adV k), .int (nI j)]) (rest := []) ⟨hx, hb, hml, hown, hts⟩ (zc_latin l Z D tc adK adV sb sx k q hq hlen j hj) (z_cwS 2 hts (y := yJ1_charAt_3b067) (bytes := cJ1_charAt_3b067) (maxL := 2) (ret := (some .char)) (z_w_in (i := 680) (by decide +kernel)) (z_w_in (i := 681) (by decide +kernel)) (z_w_in (i := 114) (by decide +kernel)) (z_w_in (i := 682) (by decide +kernel)) rfl rfl (by decide +kernel) ⟨Nat.le_of_ble_eq_true rfl, Nat.le_of_ble_eq_true rfl⟩) ⟨z_P1_blind, fun U hU hW => ⟨rfl, hK.at hS hU hW⟩⟩ rfl rfl hl.1 rfl (lv_room (Nat.le_of_ble_eq_true rfl)) dJ0_charAt_5068e_12 ⟨Nat.zero_le _, Nat.zero_le _⟩) ?_
  exact W.zret hx hb hr (z_nar _) (fun t ht _ => ⟨rfl, ht⟩) (fun _ h => by cases h) dJ0_charAt_5068e_15
end
section
/-! texts, constructors of Object, the JDK's small functions -/
noncomputable def z_cat (st : List Value) : Nat := (st.map fun v => v.category).sum
theorem z_cat_tr (ad : Nat → Nat) (st : List Value) : ((st.map (z_tr ad)).map fun v => v.category).sum = z_cat st := by
  unfold z_cat
  rw [List.map_map]
  congr 1
  exact List.map_congr_left fun v _ => z_tr_cat ad v
theorem z_strs_len : ∀ q ∈ z_strs, q.2.2.2.length < 256 := by decide +kernel
noncomputable def zo_ldcs : zNop := fun _ _ a _ _ k l st h => if a < z_strs.length then zn (k + 1) l (.ref (zB + a) :: st) h else none
noncomputable def zk_ldcs : zCk := fun M a _ _ pc ins len _ nx k => match ins with
  | .ldc idx => (match z_strs[a]? with | some q => decide (q.1 = M.1) && decide (q.2.1 = idx) | none => false) && decide (len = 2) && decide (nx (k + 1) = pc + 2)
  | _ => false
theorem zs_ldcs : z_Sn zo_ldcs zk_ldcs := by
  intro p l e R s m args below meth c Z D tc adK adV sb sx M nx ad0 n0 C S d Q a b ci k ins len pl hF hK hA hR hd hck lo st h k' lo' st' h' x y hop kc ks hW
  unfold zo_ldcs at hop
  by_cases hc : a < z_strs.length
  case neg => rw [if_neg hc] at hop; cases hop
  rw [if_pos hc] at hop
  obtain ⟨rfl, rfl, rfl, rfl, rfl, rfl⟩ := zn_inj hop
  obtain ⟨hx, hb, hml, hr, hown, hts, -⟩ := hF
  intro ad H locs ls cells slots q1 q2 q3 q4 q5 q6 q7 q8 q9
  have kk := hW ad H locs ls cells slots q1 q2 q3 q4 q5 q6 (z_okC (fun i hi => by cases hi; exact Or.inr (Nat.le_add_right _ _)) q7) q8 q9
  unfold zk_ldcs at hck
  split at hck
  case h_2 => cases hck
  next idx =>
  simp only [Bool.and_eq_true, decide_eq_true_eq] at hck
  obtain ⟨⟨hck, rfl⟩, hn⟩ := hck
  split at hck
  case h_2 => cases hck
  next q hq =>
  simp only [Bool.and_eq_true, decide_eq_true_eq] at hck
  obtain ⟨h1, rfl⟩ := hck
  rw [hn, List.map_cons, z_tr_ref, q2 _ (Or.inr (Nat.le_add_right _ _)), hA.1 a hc] at kk
  have hR2 := (hK.2.2.1 a q hq).1
  rw [h1] at hR2
  exact va_ldcS hx hb hown hR2 hd kk
noncomputable def zo_slength : zNop := fun _ d _ _ _ k l st h => match st with
  | .ref i :: st => if zB ≤ i ∧ 6 ≤ d ∧ z_cat st ≤ 8 then (match z_strs[i - zB]? with | some q => zn (k + 1) l (.int (Int32.ofNat q.2.2.2.length) :: st) h | none => none) else none
  | _ => none
noncomputable def zk_slength : zCk := fun M _ _ _ pc ins len pl nx k => match ins with
  | .invokevirtual idx => z_w (.methodLink M.1 idx yJ0_length_8abf5) (pl.getD 0 0) && decide (len = 3) && decide (nx (k + 1) = pc + 3)
  | _ => false
theorem z_ad_str {adK : Nat → Nat} {sb : Nat} {ad0 ad : Nat → Nat} {n0 i : Nat} {q : String × Nat × String × List Int32} (hA : z_A0 adK sb ad0) (q2 : z_ag n0 ad0 ad) (hi : zB ≤ i) (hq : z_strs[i - zB]? = some q) : ad i = adK (i - zB) := by
  have hl := (List.getElem?_eq_some_iff.mp hq).1
  rw [q2 i (Or.inr hi), ← hA.1 _ hl, Nat.add_sub_of_le hi]
theorem zs_slength : z_Sn zo_slength zk_slength := by
  intro p l e R s m args below meth c Z D tc adK adV sb sx M nx ad0 n0 C S d Q a b ci k ins len pl hF hK hA hR hd hck lo st h k' lo' st' h' x y hop kc ks hW
  unfold zo_slength at hop
  split at hop
  case h_2 => cases hop
  next i st2 =>
  by_cases hc : zB ≤ i ∧ 6 ≤ d ∧ z_cat st2 ≤ 8
  case neg => rw [if_neg hc] at hop; cases hop
  rw [if_pos hc] at hop
  obtain ⟨hi, hd2, hcat⟩ := hc
  split at hop
  case h_2 => cases hop
  next q hq =>
  obtain ⟨rfl, rfl, rfl, rfl, rfl, rfl⟩ := zn_inj hop
  obtain ⟨hx, hb, hml, hr, hown, hts, -⟩ := hF
  intro ad H locs ls cells slots q1 q2 q3 q4 q5 q6 q7 q8 q9
  have kk := hW ad H locs ls cells slots q1 q2 q3 q4 q5 q6 (z_okC (z_okV_int _ _) (z_okT q7)) q8 q9
  unfold zk_slength at hck
  split at hck
  case h_2 => cases hck
  next idx =>
  simp only [Bool.and_eq_true, decide_eq_true_eq] at hck
  obtain ⟨⟨h1, rfl⟩, hn⟩ := hck
  rw [hn] at kk
  rw [List.map_cons, z_tr_ref, z_ad_str hA q2 hi hq]
  have hlq := z_strs_len q (List.mem_of_getElem? hq)
  obtain ⟨r1, r2, r3, r4⟩ := hR
  refine z_callp (va_runV (As := []) ⟨hx, hb, hml, hown, hts⟩ (zc_length l Z D tc adK adV sb sx (i - zB) q hq (by omega)) (cwV 0 hts (z_good (ws := wsV M.1 idx RJ0 yJ0_length_8abf5 (.code yJ0_length_8abf5 cJ0_length_8abf5 1 (some .int) :: z_T)) (fun w hw => by
      rcases List.mem_append.mp hw with h | h
      · simp only [List.mem_cons, List.not_mem_nil, or_false] at h
        rcases h with rfl | rfl | rfl | rfl
        · exact z_w_in h1
        · exact (z_w_in (i := 656) (by decide +kernel))
        · exact (z_w_in (i := 657) (by decide +kernel))
        · exact (z_w_in (i := 113) (by decide +kernel))
      · rcases List.mem_cons.mp h with rfl | h
        · exact (z_w_in (i := 658) (by decide +kernel))
        · exact h)) rfl rfl rfl (by decide +kernel) ⟨by show 1 + 1 ≤ _; omega, by show 8 + (1 + 11) + 60 * 1 ≤ _; omega⟩) ⟨z_P1_blind, vk_recv (hK.2.2.1 _ q hq).2 (i := 0) (by decide) q4, fun U hU hW => ⟨rfl, hK.at q4 hU hW⟩⟩ rfl rfl q5.1 rfl (lv_room (by rw [z_cat_tr]; exact hcat)) hd ⟨by omega, by omega⟩) kk
noncomputable def zo_scharAt : zNop := fun _ d _ _ _ k l st h => match st with
  | .int j :: .ref i :: st => if zB ≤ i ∧ 6 ≤ d ∧ z_cat st ≤ 8 then (match z_strs[i - zB]? with | some q => if z_in j q.2.2.2.length = true then zn (k + 1) l (.int ((q.2.2.2.getD j.toNatClampNeg 0) &&& 255) :: st) h else none | none => none) else none
  | _ => none
noncomputable def zk_scharAt : zCk := fun M _ _ _ pc ins len pl nx k => match ins with
  | .invokevirtual idx => z_w (.methodLink M.1 idx yJ0_charAt_5068e) (pl.getD 0 0) && decide (len = 3) && decide (nx (k + 1) = pc + 3)
  | _ => false
theorem zs_scharAt : z_Sn zo_scharAt zk_scharAt := by
  intro p l e R s m args below meth c Z D tc adK adV sb sx M nx ad0 n0 C S d Q a b ci k ins len pl hF hK hA hR hd hck lo st h k' lo' st' h' x y hop kc ks hW
  unfold zo_scharAt at hop
  split at hop
  case h_2 => cases hop
  next j i st2 =>
  by_cases hc : zB ≤ i ∧ 6 ≤ d ∧ z_cat st2 ≤ 8
  case neg => rw [if_neg hc] at hop; cases hop
  rw [if_pos hc] at hop
  obtain ⟨hi, hd2, hcat⟩ := hc
  split at hop
  case h_2 => cases hop
  next q hq =>
  by_cases hj : z_in j q.2.2.2.length = true
  case neg => rw [if_neg hj] at hop; cases hop
  rw [if_pos hj] at hop
  obtain ⟨rfl, rfl, rfl, rfl, rfl, rfl⟩ := zn_inj hop
  obtain ⟨hx, hb, hml, hr, hown, hts, -⟩ := hF
  intro ad H locs ls cells slots q1 q2 q3 q4 q5 q6 q7 q8 q9
  have kk := hW ad H locs ls cells slots q1 q2 q3 q4 q5 q6 (z_okC (z_okV_int _ _) (z_okT (z_okT q7))) q8 q9
  unfold zk_scharAt at hck
  split at hck
  case h_2 => cases hck
  next idx =>
  simp only [Bool.and_eq_true, decide_eq_true_eq] at hck
  obtain ⟨⟨h1, rfl⟩, hn⟩ := hck
  rw [hn] at kk
  rw [List.map_cons, List.map_cons, z_tr_ref, z_ad_str hA q2 hi hq]
  have hlq := z_strs_len q (List.mem_of_getElem? hq)
  obtain ⟨j9, hj9, e9⟩ := vp_in_of (z_in_ok hj) (by omega)
  subst e9
  rw [nI_clamp (by omega)] at kk
  obtain ⟨r1, r2, r3, r4⟩ := hR
  refine z_callp (va_runV (As := [.int (nI j9)]) ⟨hx, hb, hml, hown, hts⟩ (zc_charAt l Z D tc adK adV sb sx (i - zB) q hq (by omega) j9 hj9) (cwV 1 hts (z_good (ws := wsV M.1 idx RJ0 yJ0_charAt_5068e (.code yJ0_charAt_5068e cJ0_charAt_5068e 2 (some .char) :: z_T)) (fun w hw => by
      rcases List.mem_append.mp hw with h | h
      · simp only [List.mem_cons, List.not_mem_nil, or_false] at h
        rcases h with rfl | rfl | rfl | rfl
        · exact z_w_in h1
        · exact (z_w_in (i := 673) (by decide +kernel))
        · exact (z_w_in (i := 674) (by decide +kernel))
        · exact (z_w_in (i := 113) (by decide +kernel))
      · rcases List.mem_cons.mp h with rfl | h
        · exact (z_w_in (i := 675) (by decide +kernel))
        · exact h)) rfl rfl rfl (by decide +kernel) ⟨by show 3 + 1 ≤ _; omega, by show 8 + (2 + 11) + 60 * 3 ≤ _; omega⟩) ⟨z_P1_blind, vk_recv (hK.2.2.1 _ q hq).2 (i := 0) (by decide) q4, fun U hU hW => ⟨rfl, hK.at q4 hU hW⟩⟩ rfl rfl q5.1 rfl (lv_room (by rw [z_cat_tr]; exact hcat)) hd ⟨by omega, by omega⟩) kk
noncomputable def zo_oinit : zNop := fun _ d _ _ _ k l st h => match st with
  | .ref _ :: st => if 6 ≤ d ∧ z_cat st ≤ 8 then zn (k + 1) l st h else none
  | _ => none
noncomputable def zk_oinit : zCk := fun M _ _ _ pc ins len pl nx k => match ins with
  | .invokespecial idx => z_w (.methodLink M.1 idx objectInit) (pl.getD 0 0) && decide (len = 3) && decide (nx (k + 1) = pc + 3)
  | _ => false
theorem zs_oinit : z_Sn zo_oinit zk_oinit := by
  intro p l e R s m args below meth c Z D tc adK adV sb sx M nx ad0 n0 C S d Q a b ci k ins len pl hF hK hA hR hd hck lo st h k' lo' st' h' x y hop kc ks hW
  unfold zo_oinit at hop
  split at hop
  case h_2 => cases hop
  next i st2 =>
  by_cases hc : 6 ≤ d ∧ z_cat st2 ≤ 8
  case neg => rw [if_neg hc] at hop; cases hop
  rw [if_pos hc] at hop
  obtain ⟨hd2, hcat⟩ := hc
  obtain ⟨rfl, rfl, rfl, rfl, rfl, rfl⟩ := zn_inj hop
  obtain ⟨hx, hb, hml, hr, hown, hts, -⟩ := hF
  intro ad H locs ls cells slots q1 q2 q3 q4 q5 q6 q7 q8 q9
  have kk := hW ad H locs ls cells slots q1 q2 q3 q4 q5 q6 (z_okT q7) q8 q9
  unfold zk_oinit at hck
  split at hck
  case h_2 => cases hck
  next idx =>
  simp only [Bool.and_eq_true, decide_eq_true_eq] at hck
  obtain ⟨⟨h1, rfl⟩, hn⟩ := hck
  rw [hn] at kk
  obtain ⟨r1, r2, r3, r4⟩ := hR
  have hz := z_cat_tr ad st'
  refine W.objInit hx hb hown (hts _ (z_w_in h1)) (hts (.instanceMethod objectInit) (z_w_in (i := 136) (by decide +kernel))) (hts (.code objectInit ⟨#[0xb1]⟩ 1 none) (z_w_in (i := 137) (by decide +kernel))) rfl (by rw [hml]; exact q5.1) rfl hd (by omega) (by show 2 * 0 + ((st'.map (z_tr ad)).map fun v => v.category).sum + 12 ≤ _; omega) kk
noncomputable def zo_min : zNop := fun _ d _ _ _ k l st h => match st with
  | .int y :: .int x :: st => if 6 ≤ d ∧ z_cat st ≤ 8 then zn (k + 1) l (.int (if y < x then y else x) :: st) h else none
  | _ => none
noncomputable def zk_min : zCk := fun M _ _ _ pc ins len pl nx k => match ins with
  | .invokestatic idx => z_w (.methodLink M.1 idx Lib.Math.min.name) (pl.getD 0 0) && decide (len = 3) && decide (nx (k + 1) = pc + 3)
  | _ => false
theorem zs_min : z_Sn zo_min zk_min := by
  intro p l e R s m args below meth c Z D tc adK adV sb sx M nx ad0 n0 C S d Q a b ci k ins len pl hF hK hA hR hd hck lo st h k' lo' st' h' x y hop kc ks hW
  unfold zo_min at hop
  split at hop
  case h_2 => cases hop
  next vy vx st2 =>
  by_cases hc : 6 ≤ d ∧ z_cat st2 ≤ 8
  case neg => rw [if_neg hc] at hop; cases hop
  rw [if_pos hc] at hop
  obtain ⟨hd2, hcat⟩ := hc
  obtain ⟨rfl, rfl, rfl, rfl, rfl, rfl⟩ := zn_inj hop
  obtain ⟨hx, hb, hml, hr, hown, hts, -⟩ := hF
  intro ad H locs ls cells slots q1 q2 q3 q4 q5 q6 q7 q8 q9
  have kk := hW ad H locs ls cells slots q1 q2 q3 q4 q5 q6 (z_okC (z_okV_int _ _) (z_okT (z_okT q7))) q8 q9
  unfold zk_min at hck
  split at hck
  case h_2 => cases hck
  next idx =>
  simp only [Bool.and_eq_true, decide_eq_true_eq] at hck
  obtain ⟨⟨h1, rfl⟩, hn⟩ := hck
  rw [hn] at kk
  obtain ⟨r1, r2, r3, r4⟩ := hR
  have hz := z_cat_tr ad st2
  exact va_mmin hx hb (by rw [hml]; exact q5.1.symm) hown (hts _ (z_w_in h1)) (hts (.static Lib.Math.min.name) (z_w_in (i := 438) (by decide +kernel))) (hts (.initialized "java/lang/Math") (z_w_in (i := 117) (by decide +kernel))) (hts (.code Lib.Math.min.name Lib.Math.min.code 2 (some .int)) (z_w_in (i := 439) (by decide +kernel))) (by omega) (by omega) (by omega) (by omega) hd kk
noncomputable def zo_max : zNop := fun _ d _ _ _ k l st h => match st with
  | .int y :: .int x :: st => if 6 ≤ d ∧ z_cat st ≤ 8 then zn (k + 1) l (.int (if x < y then y else x) :: st) h else none
  | _ => none
noncomputable def zk_max : zCk := fun M _ _ _ pc ins len pl nx k => match ins with
  | .invokestatic idx => z_w (.methodLink M.1 idx Lib.Math.max.name) (pl.getD 0 0) && decide (len = 3) && decide (nx (k + 1) = pc + 3)
  | _ => false
theorem zs_max : z_Sn zo_max zk_max := by
  intro p l e R s m args below meth c Z D tc adK adV sb sx M nx ad0 n0 C S d Q a b ci k ins len pl hF hK hA hR hd hck lo st h k' lo' st' h' x y hop kc ks hW
  unfold zo_max at hop
  split at hop
  case h_2 => cases hop
  next vy vx st2 =>
  by_cases hc : 6 ≤ d ∧ z_cat st2 ≤ 8
  case neg => rw [if_neg hc] at hop; cases hop
  rw [if_pos hc] at hop
  obtain ⟨hd2, hcat⟩ := hc
  obtain ⟨rfl, rfl, rfl, rfl, rfl, rfl⟩ := zn_inj hop
  obtain ⟨hx, hb, hml, hr, hown, hts, -⟩ := hF
  intro ad H locs ls cells slots q1 q2 q3 q4 q5 q6 q7 q8 q9
  have kk := hW ad H locs ls cells slots q1 q2 q3 q4 q5 q6 (z_okC (z_okV_int _ _) (z_okT (z_okT q7))) q8 q9
  unfold zk_max at hck
  split at hck
  case h_2 => cases hck
  next idx =>
  simp only [Bool.and_eq_true, decide_eq_true_eq] at hck
  obtain ⟨⟨h1, rfl⟩, hn⟩ := hck
  rw [hn] at kk
  obtain ⟨r1, r2, r3, r4⟩ := hR
  have hz := z_cat_tr ad st2
  exact va_mmax hx hb (by rw [hml]; exact q5.1.symm) hown (hts _ (z_w_in h1)) (hts (.static Lib.Math.max.name) (z_w_in (i := 1171) (by decide +kernel))) (hts (.initialized "java/lang/Math") (z_w_in (i := 117) (by decide +kernel))) (hts (.code Lib.Math.max.name Lib.Math.max.code 2 (some .int)) (z_w_in (i := 1172) (by decide +kernel))) (by omega) (by omega) (by omega) (by omega) hd kk
noncomputable def zo_acopy : zNop := fun _ d _ _ _ k l st h => match st with
  | .int n :: .int dp :: .ref i1 :: .int sp :: .ref i0 :: st => match h[i0]?, h[i1]? with
    | some (.inl (0, (n0, .inl f))), some (.inl (0, (n1, .inl g))) => if 6 ≤ d ∧ z_cat st ≤ 8 ∧ ¬ sp < 0 ∧ ¬ dp < 0 ∧ ¬ n < 0 ∧ sp.toNatClampNeg + n.toNatClampNeg ≤ n0 ∧ dp.toNatClampNeg + n.toNatClampNeg ≤ n1 then zn (k + 1) l st (h.set i1 (.inl (0, (n1, .inl (va_cpy f g sp.toNatClampNeg dp.toNatClampNeg n.toNatClampNeg))))) else none
    | _, _ => none
  | _ => none
noncomputable def zk_acopy : zCk := fun M _ _ _ pc ins len pl nx k => match ins with
  | .invokestatic idx => z_w (.methodLink M.1 idx arraycopyName) (pl.getD 0 0) && decide (len = 3) && decide (nx (k + 1) = pc + 3)
  | _ => false
theorem zs_acopy : z_Sn zo_acopy zk_acopy := by
  intro p l e R s m args below meth c Z D tc adK adV sb sx M nx ad0 n0 C S d Q a b ci k ins len pl hF hK hA hR hd hck lo st h k' lo' st' h' x y hop kc ks hW
  unfold zo_acopy at hop
  split at hop
  case h_2 => cases hop
  next n dp i1 sp i0 st2 =>
  split at hop
  case h_2 => cases hop
  next n0' f n1' g he0 he1 =>
  by_cases hc : 6 ≤ d ∧ z_cat st2 ≤ 8 ∧ ¬ sp < 0 ∧ ¬ dp < 0 ∧ ¬ n < 0 ∧ sp.toNatClampNeg + n.toNatClampNeg ≤ n0' ∧ dp.toNatClampNeg + n.toNatClampNeg ≤ n1'
  case neg => rw [if_neg hc] at hop; cases hop
  rw [if_pos hc] at hop
  obtain ⟨hd2, hcat, c1, c2, c3, c4, c5⟩ := hc
  obtain ⟨rfl, rfl, rfl, rfl, rfl, rfl⟩ := zn_inj hop
  obtain ⟨hx, hb, hml, hr, hown, hts, -⟩ := hF
  intro ad H locs ls cells slots q1 q2 q3 q4 q5 q6 q7 q8 q9
  unfold zk_acopy at hck
  split at hck
  case h_2 => cases hck
  next idx =>
  simp only [Bool.and_eq_true, decide_eq_true_eq] at hck
  obtain ⟨⟨h1, rfl⟩, hn⟩ := hck
  obtain ⟨r1, r2, r3, r4⟩ := hR
  have hz := z_cat_tr ad st'
  have e9 : nativeFrameWords "java/lang/System" "arraycopy" 5 ≤ 40 := by decide
  refine va_copyi hx hb (by rw [hml]; exact q5.1.symm) hown (hts _ (z_w_in h1)) (hts (.native arraycopyName) (z_w_in (i := 421) (by decide +kernel))) (hts (.static arraycopyName) (z_w_in (i := 420) (by decide +kernel))) (hts (.initialized "java/lang/System") (z_w_in (i := 111) (by decide +kernel))) hK.2.1 q1.1 q1.2.1 q4 i0 i1 0 0 (z_ws_get he0) (z_ws_get he1) rfl rfl rfl c1 c2 c3 c4 c5 (fun _ _ => rfl) (by omega) (by omega) hd fun H1 locs1 g1 g2 g3 => ?_
  have kk := hW ad H1 locs1 ls cells slots (q1.set (e := .inl (0, (n1', .inl (va_cpy f g sp.toNatClampNeg dp.toNatClampNeg n.toNatClampNeg)))) g1 g2 trivial) q2 (by rw [List.length_set]; exact q3) g3 q5 (by rw [List.length_set]; exact q6) (by rw [List.length_set]; exact z_okT (z_okT (z_okT (z_okT (z_okT q7))))) q8 q9
  rw [hn] at kk
  exact kk
noncomputable def zo_clone : zNop := fun _ d _ _ _ k l st h => match st with
  | .ref i :: st => match h[i]? with
    | some (.inl (0, (n, .inl f))) => if 6 ≤ d ∧ z_cat st ≤ 8 ∧ h.length < zB then some (k + 1, l, .ref h.length :: st, h ++ [.inl (0, (n, .inl f))], 1, n) else none
    | _ => none
  | _ => none
noncomputable def zk_clone : zCk := fun M _ _ _ pc ins len pl nx k => match ins with
  | .invokevirtual idx => z_w (.methodLink M.1 idx ⟨"[I", "clone", "()Ljava/lang/Object;"⟩) (pl.getD 0 0) && decide (len = 3) && decide (nx (k + 1) = pc + 3)
  | _ => false
theorem z_K_int {D : va_G} {tc : Nat → ClassId} {U : State} (h : va_K D vwCl (z_tys tc) U) : U.vm.findClass "[I" = some (tc 0) := (h.2 0 _ rfl).2
theorem zs_clone : z_Sn zo_clone zk_clone := by
  intro p l e R s m args below meth c Z D tc adK adV sb sx M nx ad0 n0 C S d Q a b ci k ins len pl hF hK hA hR hd hck lo st h k' lo' st' h' x y hop kc ks hW
  unfold zo_clone at hop
  split at hop
  case h_2 => cases hop
  next i st2 =>
  split at hop
  case h_2 => cases hop
  next n f he =>
  by_cases hc : 6 ≤ d ∧ z_cat st2 ≤ 8 ∧ h.length < zB
  case neg => rw [if_neg hc] at hop; cases hop
  rw [if_pos hc] at hop
  obtain ⟨hd2, hcat, hlen⟩ := hc
  simp only [Option.some.injEq, Prod.mk.injEq] at hop
  obtain ⟨rfl, rfl, rfl, rfl, rfl, rfl⟩ := hop
  obtain ⟨hx, hb, hml, hr, hown, hts, -⟩ := hF
  intro ad H locs ls cells slots q1 q2 q3 q4 q5 q6 q7 q8 q9
  unfold zk_clone at hck
  split at hck
  case h_2 => cases hck
  next idx =>
  simp only [Bool.and_eq_true, decide_eq_true_eq] at hck
  obtain ⟨⟨h1, rfl⟩, hn⟩ := hck
  obtain ⟨r1, r2, r3, r4⟩ := hR
  have hz := z_cat_tr ad st2
  refine va_clone (ad := "[I") (x := (n, .inl f)) (ty := .int) hx hb (by rw [hml]; exact q5.1.symm) hown (hts _ (z_w_in h1)) (hts (.sameMethod "[I" "java/lang/Object" "clone" "()Ljava/lang/Object;") (z_w_in (i := 956) (by decide +kernel))) (hts (.native ⟨"java/lang/Object", "clone", "()Ljava/lang/Object;"⟩) (z_w_in (i := 957) (by decide +kernel))) (hts (.instanceMethod ⟨"java/lang/Object", "clone", "()Ljava/lang/Object;"⟩) (z_w_in (i := 958) (by decide +kernel))) (hts (.selects "[I" ⟨"[I", "clone", "()Ljava/lang/Object;"⟩ ⟨"java/lang/Object", "clone", "()Ljava/lang/Object;"⟩) (z_w_in (i := 959) (by decide +kernel))) hK.2.2.2.2.2.2.2.2.2.2.2.2.1 hK.2.1 q1.1 q1.2.1 q4 (fun q hq => Nat.le_trans hK.1 hq) i 0 (z_ws_get he) rfl (z_K_int hK.2.1) (fun i9 v9 h9 => by
      have h8 : (arrV (tc 0) n (fun j => .int (f j))).slots[i9]? = some v9 := h9
      unfold arrV at h8
      simp only [Array.getElem?_ofFn] at h8
      split at h8
      · cases h8; rfl
      · cases h8) (by omega) (by omega) (by omega) (by show slots + n ≤ _; omega) hd fun q H1 g0 g1 g2 g3 => ?_
  have kk := z_W_new (x := 1) (y := n) (q := q) (cells := cells) (slots := slots) hW q1 q2 q3 q5 q6 (z_okT q7) hlen (fun _ _ => rfl) trivial g1 g2 g3 (by omega) (by omega)
  rw [hn] at kk
  exact kk
noncomputable def zo_cast : zNop := fun _ _ _ _ _ k l st h => match st with
  | .ref i :: st => match h[i]? with
    | some (.inl (0, (n, .inl f))) => zn (k + 1) l (.ref i :: st) h
    | _ => none
  | _ => none
noncomputable def zk_cast : zCk := fun M _ _ _ pc ins len pl nx k => match ins with
  | .checkcast idx => z_w (.classLink M.1 idx "[I") (pl.getD 0 0) && decide (len = 3) && decide (nx (k + 1) = pc + 3)
  | _ => false
theorem zs_cast : z_Sn zo_cast zk_cast := by
  intro p l e R s m args below meth c Z D tc adK adV sb sx M nx ad0 n0 C S d Q a b ci k ins len pl hF hK hA hR hd hck lo st h k' lo' st' h' x y hop kc ks hW
  unfold zo_cast at hop
  split at hop
  case h_2 => cases hop
  next i st2 =>
  split at hop
  case h_2 => cases hop
  next n f he =>
  obtain ⟨rfl, rfl, rfl, rfl, rfl, rfl⟩ := zn_inj hop
  obtain ⟨hx, hb, hml, hr, hown, hts, -⟩ := hF
  intro ad H locs ls cells slots q1 q2 q3 q4 q5 q6 q7 q8 q9
  have kk := hW ad H locs ls cells slots q1 q2 q3 q4 q5 q6 q7 q8 q9
  unfold zk_cast at hck
  split at hck
  case h_2 => cases hck
  next idx =>
  simp only [Bool.and_eq_true, decide_eq_true_eq] at hck
  obtain ⟨⟨h1, rfl⟩, hn⟩ := hck
  rw [hn] at kk
  exact va_castA hx hb hown (hts _ (z_w_in h1)) q1.1 i (z_ws_get he) (z_K_int hK.2.1) hd kk
end
section
/-! THE RUN of the abstract machine: fuel, depth, method, step -/
noncomputable def z_no : zNop := fun _ _ _ _ _ _ _ _ _ => none
noncomputable def zk_no : zCk := fun _ _ _ _ _ _ _ _ _ _ => false
theorem zs_no : z_Sn z_no zk_no := by
  intro p l e R s m args below meth c Z D tc adK adV sb sx M nx ad0 n0 C S d Q a b ci k ins len pl hF hK hA hR hd hck
  cases hck
noncomputable def z_ops : List zNop := [zo_const, zo_iload, zo_aload, zo_lload, zo_istore, zo_astore, zo_lstore, zo_iinc, zo_iadd, zo_isub, zo_imul, zo_idiv, zo_irem, zo_ishl, zo_ishr, zo_iushr, zo_iand, zo_ior, zo_ixor, zo_i2l, zo_l2i, zo_i2b, zo_ladd, zo_lmul, zo_ldiv, zo_lconst, zo_lcmp, zo_dup, zo_dup2, zo_pop, zo_goto, zo_if, zo_icmp, zo_ifnn, zo_lald, zo_tsw, zo_lsw2, zo_get, zo_put, zo_iald, zo_iast, zo_bald, zo_bast, zo_last, zo_aald, zo_aast, zo_alen, zo_newa, zo_anew, zo_new, z_no, z_no, z_no, z_no, z_no, z_no, z_no, zo_oinit, zo_ldcs, zo_slength, zo_scharAt, zo_acopy, z_no, zo_null, z_no, zo_sald, zo_slen, zo_min, zo_max, z_no, zo_clone, zo_cast]
noncomputable def z_cks : List zCk := [zk_const, zk_iload, zk_aload, zk_lload, zk_istore, zk_astore, zk_lstore, zk_iinc, zk_iadd, zk_isub, zk_imul, zk_idiv, zk_irem, zk_ishl, zk_ishr, zk_iushr, zk_iand, zk_ior, zk_ixor, zk_i2l, zk_l2i, zk_i2b, zk_ladd, zk_lmul, zk_ldiv, zk_lconst, zk_lcmp, zk_dup, zk_dup2, zk_pop, zk_goto, zk_if, zk_icmp, zk_ifnn, zk_lald, zk_tsw, zk_lsw2, zk_get, zk_put, zk_iald, zk_iast, zk_bald, zk_bast, zk_last, zk_aald, zk_aast, zk_alen, zk_newa, zk_anew, zk_new, zk_no, zk_no, zk_no, zk_no, zk_no, zk_no, zk_no, zk_oinit, zk_ldcs, zk_slength, zk_scharAt, zk_acopy, zk_no, zk_null, zk_no, zk_sald, zk_slen, zk_min, zk_max, zk_no, zk_clone, zk_cast]
theorem z_all : ∀ o, z_Sn (z_ops.getD o z_no) (z_cks.getD o zk_no)
  | 0 => zs_const | 1 => zs_iload | 2 => zs_aload | 3 => zs_lload | 4 => zs_istore | 5 => zs_astore | 6 => zs_lstore | 7 => zs_iinc
  | 8 => zs_iadd | 9 => zs_isub | 10 => zs_imul | 11 => zs_idiv | 12 => zs_irem | 13 => zs_ishl | 14 => zs_ishr | 15 => zs_iushr
  | 16 => zs_iand | 17 => zs_ior | 18 => zs_ixor | 19 => zs_i2l | 20 => zs_l2i | 21 => zs_i2b | 22 => zs_ladd | 23 => zs_lmul
  | 24 => zs_ldiv | 25 => zs_lconst | 26 => zs_lcmp | 27 => zs_dup | 28 => zs_dup2 | 29 => zs_pop | 30 => zs_goto | 31 => zs_if
  | 32 => zs_icmp | 33 => zs_ifnn | 34 => zs_lald | 35 => zs_tsw | 36 => zs_lsw2 | 37 => zs_get | 38 => zs_put | 39 => zs_iald
  | 40 => zs_iast | 41 => zs_bald | 42 => zs_bast | 43 => zs_last | 44 => zs_aald | 45 => zs_aast | 46 => zs_alen | 47 => zs_newa
  | 48 => zs_anew | 49 => zs_new | 50 => zs_no | 51 => zs_no | 52 => zs_no | 53 => zs_no | 54 => zs_no | 55 => zs_no
  | 56 => zs_no | 57 => zs_oinit | 58 => zs_ldcs | 59 => zs_slength | 60 => zs_scharAt | 61 => zs_acopy | 62 => zs_no | 63 => zs_null
  | 64 => zs_no | 65 => zs_sald | 66 => zs_slen | 67 => zs_min | 68 => zs_max | 69 => zs_no | 70 => zs_clone | 71 => zs_cast
  | n + 72 => zs_no
/-- how a method ends here -/
noncomputable def z_fin (M : zMi) (i : zI) (d : Nat) (st : List Value) : Option (zO × Nat × Nat) := match i.1, st with
  | 50, [.int r] => (match M.2.2.2.2.1 with | some ty => if narrow ty (.int r) = .int r then some (.inl (some (.int r)), 0, 0) else none | none => none)
  | 51, [.long r] => some (.inl (some (.long r)), 0, 0)
  | 52, [.ref r] => some (.inl (some (.ref r)), 0, 0)
  | 53, [] => some (.inl none, 0, 0)
  | 62, st => if 6 ≤ d ∧ z_cat st ≤ 8 then some (.inr i.2.1, 1, 6) else none
  | _, _ => none
/-- which method is called here, with what -/
noncomputable def z_cal0 (i : zI) (d : Nat) (st : List Value) (h : zH) : Option (Nat × List Value × List Value) :=
  if d = 0 ∨ st.length < i.2.2.1 then none else match i.1 with
  | 54 => (match st.drop i.2.2.1 with
    | .ref r :: rest => (match h[r]? with
      | some (.inr (c, _)) => if (c : Int) = i.2.2.2 ∧ z_cat rest ≤ 8 then some (i.2.1, .ref r :: (st.take i.2.2.1).reverse, rest) else none
      | _ => none)
    | _ => none)
  | 55 => if z_cat (st.drop i.2.2.1) ≤ 8 then some (i.2.1, (st.take i.2.2.1).reverse, st.drop i.2.2.1) else none
  | 72 => if z_cat (st.drop i.2.2.1) ≤ 8 then some (i.2.1, (st.take i.2.2.1).reverse, st.drop i.2.2.1) else none
  | 56 => (match st.drop i.2.2.1 with
    | .ref r :: rest => if z_cat rest ≤ 8 then some (i.2.1, .ref r :: (st.take i.2.2.1).reverse, rest) else none
    | _ => none)
  | 73 => (match st.drop i.2.2.1 with
    | .ref r :: rest => if z_cat rest ≤ 8 then some (i.2.1, .ref r :: (st.take i.2.2.1).reverse, rest) else none
    | _ => none)
  | _ => none
noncomputable def z_cal (i : zI) (d : Nat) (st : List Value) (h : zH) : Option (Nat × List Value × List Value) := match z_cal0 i d st h with
  | some (a, as, rest) => (match z_ms[a]? with | some M' => if (lg_sl as).length ≤ M'.2.2.2.1 then some (a, as, rest) else none | none => none)
  | none => none
noncomputable def z_drop (l : zL) (x : Nat) : zL := l.filter (fun q => !(q.1 == x) && !(q.1 + 1 == x && q.2.category == 2))
abbrev zRes : Type := zO × zH × Nat × Nat
noncomputable def z_add (x y : Nat) (r : zRes) : zRes := (r.1, r.2.1, r.2.2.1 + x, r.2.2.2 + y)
noncomputable def z_run (sx : zX) : Nat → Nat → Nat → Nat → zL → List Value → zH → Option zRes
  | 0, _, _, _, _, _, _ => none
  | n + 1, d, j, k, lo, st, h => match z_ms[j]?, z_cs[j]?, z_hs[j]? with
    | some M, some cs, some hs => (match cs[k]? with
      | none => none
      | some i => (match z_fin M i d st with
        | some (o, x, y) => some (o, h, x, y)
        | none => (match z_cal i d st h with
          | some (j', as, rest) => (match z_run sx n (d - 1) j' 0 (lv_args 0 as) [] h with
            | some (.inl v, h', x, y) => (z_run sx n d j (k + 1) lo (v.toList ++ rest) h').map (z_add x y)
            | some (.inr E, h', x, y) => if i.1 = 54 then (match hs.find? (fun q => q.2.2.2.2.1 == E) with
                | some q => (z_run sx n d j q.2.2.2.2.2.1 (z_drop lo q.2.2.2.2.2.2) [] h').map (z_add x y)
                | none => if hs = [] then some (.inr E, h', x, y) else none) else none
            | none => none)
          | none => (match (z_ops.getD i.1 z_no) sx d i.2.1 i.2.2.1 i.2.2.2 k lo st h with
            | some (k', lo', st', h', x, y) => (z_run sx n d j k' lo' st' h').map (z_add x y)
            | none => none))))
    | _, _, _ => none
end
section
/-! THE RUN IS THE MACHINE'S: contracts of all methods out of one induction -/
noncomputable def z_nxOf (is : List zJ) (k : Nat) : Nat := ((is[k]?).map (fun q => q.1)).getD 0
noncomputable def z_Pm (l : Launch) (Z : Nat) (D : va_G) (tc : Nat → ClassId) (adK adV : Nat → Nat) (sb : Nat) (sx : zX) (ad : Nat → Nat) (h : zH) (as : List Value) : Array Value → State → Prop := va_Pc (as.map (z_tr ad)) (fun U => z_K l Z D tc adK adV sb sx U ∧ z_R Z D tc ad h U.heap)
noncomputable def z_Qm (Z : Nat) (D : va_G) (tc : Nat → ClassId) (ad : Nat → Nat) (n : Nat) (h' : zH) (o : zO) : Array Value → State → Outcome → State → Prop := fun _ st oc t => ∃ v, o = .inl v ∧ ∃ ad', z_ag n ad ad' ∧ oc = .returned (v.map (z_tr ad')) ∧ z_R Z D tc ad' h' t.heap ∧ n ≤ h'.length ∧ (∀ w, v = some w → z_okV h'.length w) ∧ va_F (fun q => Z ≤ q) st t
noncomputable def z_Xm (Z : Nat) (D : va_G) (tc : Nat → ClassId) (ad : Nat → Nat) (n : Nat) (h' : zH) (o : zO) : String → State → State → Prop := fun E st t => ∃ x, o = .inr x ∧ z_excs[x]? = some E ∧ ∃ ad', z_ag n ad ad' ∧ z_R Z D tc ad' h' t.heap ∧ n ≤ h'.length ∧ va_F (fun q => Z ≤ q) st t
theorem z_Pm_blind {l : Launch} {Z : Nat} {D : va_G} {tc : Nat → ClassId} {adK adV : Nat → Nat} {sb : Nat} {sx : zX} {ad : Nat → Nat} {h : zH} {as : List Value} : FrameBlind (z_Pm l Z D tc adK adV sb sx ad h as) := fun a U g mk q => ⟨q.1, q.2.1.call g mk a, q.2.2⟩
section ZC
variable {p : Program} {l : Launch} {e : Env} {R : Room} {s : State} {m : MethodId} {args : Array Value} {below : List Frame} {meth : Method} {c : Code} {H : Heap} {locs : List Loc} {cells slots : Nat} {Q : State → Prop} {pc : Nat} {ls : Array Slot} {st0 rest : List Value} {a : Array Value} {Z : Nat} {D : va_G} {tc : Nat → ClassId} {ad : Nat → Nat} {n mc ms : Nat} {h' : zH} {o : zO}
theorem z_callx (hr : vx_Run p l e R s m args below meth c H locs cells slots mc ms (F0 m pc ls st0) rest (z_Qm Z D tc ad n h' o a) (z_Xm Z D tc ad n h' o) (fun q => Z ≤ q)) (hS : va_S (fun q => Z ≤ q) s.heap H locs)
    (kk : ∀ v, o = .inl v → ∀ (ad' : Nat → Nat) (H1 : Heap) (locs1 : List Loc), z_ag n ad ad' → z_R Z D tc ad' h' H1 → n ≤ h'.length → va_S (fun q => Z ≤ q) s.heap H1 locs1 → (∀ w, v = some w → z_okV h'.length w) → W p l e R s m args below meth c H1 locs1 (cells + mc) (slots + ms) Q (F0 m (pc + 3) ls ((v.map (z_tr ad')).toList ++ rest)))
    (kx : ∀ x E, o = .inr x → z_excs[x]? = some E → ∀ (ad' : Nat → Nat) (H1 : Heap) (locs1 : List Loc) (q9 : Addr) (ce : Cell), z_ag n ad ad' → z_R Z D tc ad' h' H1 → n ≤ h'.length → va_S (fun q => Z ≤ q) s.heap H1 locs1 → H1[q9]? = some ce → ce.vm = .none → s.vm.findClass E = some ce.cls → vx_W p l e R s m args below meth c H1 locs1 (cells + mc) (slots + ms) Q (F0 m pc ls rest) q9) : W p l e R s m args below meth c H locs cells slots Q (F0 m pc ls st0) := by
  intro T hT X
  rcases hr T hT X with ⟨v, st₀, t, T', L, h0, X', hL, e1, e2, ⟨v9, ho, ad', g1, hv, g2, g3, g4, hF⟩, st⟩ | ⟨q, st₀, t, T', L, E, ce, h0, X', hL, e1, e2, ⟨x9, ho, hE, ad', g1, g2, g3, hF⟩, hce, hcv, hcl, st⟩
  · cases hv
    obtain ⟨k1, k2, k3⟩ := vx_keep h0 e1 hS (fun _ _ h => h) (fun _ h => h) hL hF
    obtain ⟨t2, a1, b1⟩ := kk v9 ho ad' T'.heap (locs ++ L) g1 (by rw [e1]; exact g2) g3 k3 g4 T' rfl X'
    exact ⟨t2, st t2 a1, b1⟩
  · obtain ⟨k1, k2, k3⟩ := vx_keep h0 e1 hS (fun _ _ h => h) (fun _ h => h) hL hF
    obtain ⟨t2, a1, b1⟩ := kx x9 E ho hE ad' T'.heap (locs ++ L) q ce g1 (by rw [e1]; exact g2) g3 k3 (by rw [e1]; exact hce) hcv hcl T' rfl X'
    exact ⟨t2, st.trans a1, b1⟩
theorem z_calln (hr : va_Run p l e R s m args below meth c H locs cells slots mc ms (F0 m pc ls st0) rest (z_Qm Z D tc ad n h' o a) (fun q => Z ≤ q)) (hS : va_S (fun q => Z ≤ q) s.heap H locs)
    (kk : ∀ v, o = .inl v → ∀ (ad' : Nat → Nat) (H1 : Heap) (locs1 : List Loc), z_ag n ad ad' → z_R Z D tc ad' h' H1 → n ≤ h'.length → va_S (fun q => Z ≤ q) s.heap H1 locs1 → (∀ w, v = some w → z_okV h'.length w) → W p l e R s m args below meth c H1 locs1 (cells + mc) (slots + ms) Q (F0 m (pc + 3) ls ((v.map (z_tr ad')).toList ++ rest))) : W p l e R s m args below meth c H locs cells slots Q (F0 m pc ls st0) := by
  intro T hT X
  obtain ⟨v, st₀, t, T', L, h0, X', hL, e1, e2, ⟨v9, ho, ad', g1, hv, g2, g3, g4, hF⟩, st⟩ := hr T hT X
  cases hv
  obtain ⟨k1, k2, k3⟩ := vx_keep h0 e1 hS (fun _ _ h => h) (fun _ h => h) hL hF
  obtain ⟨t2, a1, b1⟩ := kk v9 ho ad' T'.heap (locs ++ L) g1 (by rw [e1]; exact g2) g3 k3 g4 T' rfl X'
  exact ⟨t2, st t2 a1, b1⟩
end ZC
/-- a method that doesn't throw here -/
theorem z_toMet {l : Launch} {y : MethodName} {ws : List Cond} {rm : Room} {Pc : Array Value → State → Prop} {Z : Nat} {D : va_G} {tc : Nat → ClassId} {ad : Nat → Nat} {n mc ms : Nat} {h' : zH} {v : Option Value} {free : Addr → Prop} (h : vx_Met l y ws rm Pc (z_Qm Z D tc ad n h' (.inl v)) (z_Xm Z D tc ad n h' (.inl v)) mc ms free) : Met l y ws rm Pc (z_Qm Z D tc ad n h' (.inl v)) mc ms free := by
  intro p e ha hc hk s m args below hf happ hP hK
  obtain ⟨n9, o9, h1, h2, h3, h4⟩ := h p e ha hc hk s m args below hf happ hP hK
  refine ⟨n9, o9, h1, h2, h3, ?_⟩
  rcases h4 with h4 | ⟨q, -, E, ce, L, ⟨x, hx, -⟩, -⟩
  · exact h4
  · cases hx
/-! the check of a table row -/
noncomputable def z_ics : List Nat := [72, 82, 355, 368, 377]
noncomputable def z_xn : List String := ["java/lang/RuntimeException", "java/lang/Exception"]
noncomputable def z_mem (w : Cond) : Bool := z_mk w lw_tbl && goodWord w
theorem z_mem_in {w : Cond} (h : z_mem w = true) : w ∈ z_T := by
  unfold z_mem at h
  rw [Bool.and_eq_true] at h
  exact List.mem_filter.mpr ⟨z_mk_ok h.1, h.2⟩
noncomputable def z_yok (y : MethodName) (n : Nat) : Bool := decide (y.cls ≠ "java/lang/invoke/MethodHandle" ∧ y.cls ≠ "java/lang/invoke/VarHandle" ∧ (parseMethodDescriptor y.desc).map (fun d => d.parameters.length) = some n)
abbrev zHd : Type := Nat × Nat × Nat × Nat × Nat × Nat × Nat
noncomputable def z_ckB (M : zMi) (is : List zJ) (hs : List zHd) (i : zI) (q : zJ) (k : Nat) : Bool := match i.1 with
  | 50 => (match q.2.1 with | .ireturn => decide (q.2.2.1 = 1) | _ => false)
  | 51 => (match q.2.1 with | .lreturn => decide (q.2.2.1 = 1) && decide (M.2.2.2.2.1 = some .long) | _ => false)
  | 52 => (match q.2.1 with | .areturn => decide (q.2.2.1 = 1) && (match M.2.2.2.2.1 with | some (.object _) => true | some (.array _) => true | _ => false) | _ => false)
  | 53 => (match q.2.1 with | .return_ => decide (q.2.2.1 = 1) && decide (M.2.2.2.2.1 = none) | _ => false)
  | 62 => (match q.2.1, z_excs[i.2.1]?, z_ics[i.2.1]?, z_strs[i.2.2.1]? with
    | .new ik, some cls, some ic, some sq => decide (M.1 = RX11) && decide (hs = []) && decide (q.2.2.1 = 3) && z_w (.classLink M.1 ik cls) (q.2.2.2.getD 0 0) && z_w (.initialized cls) (q.2.2.2.getD 1 0) && decide (sq.1 = M.1) && decide (decode M.2.2.1 (q.1 + 3) = .ok (.dup, 1)) && ((decide (decode M.2.2.1 (q.1 + 4) = .ok (.ldc sq.2.1, 2)) && decide (decode M.2.2.1 (q.1 + 6) = .ok (.invokespecial ic, 3)) && decide (decode M.2.2.1 (q.1 + 9) = .ok (.athrow, 1))) || (decide (decode M.2.2.1 (q.1 + 4) = .ok (.ldc_w sq.2.1, 3)) && decide (decode M.2.2.1 (q.1 + 7) = .ok (.invokespecial ic, 3)) && decide (decode M.2.2.1 (q.1 + 10) = .ok (.athrow, 1))))
    | _, _, _, _ => false)
  | 54 => (match q.2.1, z_ms[i.2.1]? with
    | .invokevirtual idx, some M' => decide (q.2.2.1 = 3) && decide (z_nxOf is (k + 1) = q.1 + 3) && decide (M'.2.2.2.2.2 = []) && decide (M'.2.1.cls = M'.1) && decide ((vwCl[i.2.2.2.toNat]?).map (fun x => x.1) = some M'.1) && decide (0 ≤ i.2.2.2) && z_w (.methodLink M.1 idx M'.2.1) (q.2.2.2.getD 0 0) && z_w (.instanceMethod M'.2.1) (q.2.2.2.getD 1 0) && z_w (.selects M'.1 M'.2.1 M'.2.1) (q.2.2.2.getD 2 0) && z_w (.initialized M'.1) (q.2.2.2.getD 3 0) && z_w (.code M'.2.1 M'.2.2.1 M'.2.2.2.1 M'.2.2.2.2.1) (q.2.2.2.getD 4 0) && z_yok M'.2.1 i.2.2.1 && decide (M'.2.2.2.1 ≤ 41) && hs.all (fun x => decide (x.1 ≤ q.1) && decide (q.1 < x.2.1))
    | _, _ => false)
  | 55 => (match q.2.1, z_ms[i.2.1]? with
    | .invokestatic idx, some M' => decide (q.2.2.1 = 3) && decide (z_nxOf is (k + 1) = q.1 + 3) && decide (M'.2.2.2.2.2 = []) && decide (M'.2.1.cls = M'.1) && z_w (.methodLink M.1 idx M'.2.1) (q.2.2.2.getD 0 0) && z_w (.static M'.2.1) (q.2.2.2.getD 1 0) && z_w (.initialized M'.1) (q.2.2.2.getD 2 0) && z_w (.code M'.2.1 M'.2.2.1 M'.2.2.2.1 M'.2.2.2.2.1) (q.2.2.2.getD 3 0) && z_yok M'.2.1 i.2.2.1 && decide (M'.2.2.2.1 ≤ 41)
    | _, _ => false)
  | 72 => (match q.2.1, z_ms[i.2.1]? with
    | .invokestatic idx, some M' => decide (q.2.2.1 = 3) && decide (z_nxOf is (k + 1) = q.1 + 3) && !decide (M'.2.2.2.2.2 = []) && decide (M'.2.1.cls = M'.1) && z_w (.methodLink M.1 idx M'.2.1) (q.2.2.2.getD 0 0) && z_w (.static M'.2.1) (q.2.2.2.getD 1 0) && z_w (.initialized M'.1) (q.2.2.2.getD 2 0) && z_w (.codeWith M'.2.1 M'.2.2.1 M'.2.2.2.1 M'.2.2.2.2.1 M'.2.2.2.2.2) (q.2.2.2.getD 3 0) && z_yok M'.2.1 i.2.2.1 && decide (M'.2.2.2.1 ≤ 41)
    | _, _ => false)
  | 56 => (match q.2.1, z_ms[i.2.1]? with
    | .invokespecial idx, some M' => decide (q.2.2.1 = 3) && decide (z_nxOf is (k + 1) = q.1 + 3) && decide (M'.2.2.2.2.2 = []) && decide (M'.2.1.cls = M'.1) && decide (M'.2.1.name = "<init>") && decide (M'.2.2.2.2.1 = none) && z_w (.methodLink M.1 idx M'.2.1) (q.2.2.2.getD 0 0) && z_w (.instanceMethod M'.2.1) (q.2.2.2.getD 1 0) && z_w (.initialized M'.1) (q.2.2.2.getD 2 0) && z_w (.code M'.2.1 M'.2.2.1 M'.2.2.2.1 none) (q.2.2.2.getD 3 0) && z_yok M'.2.1 i.2.2.1 && decide (M'.2.2.2.1 ≤ 41)
    | _, _ => false)
  | 73 => (match q.2.1, z_ms[i.2.1]? with
    | .invokespecial idx, some M' => decide (q.2.2.1 = 3) && decide (z_nxOf is (k + 1) = q.1 + 3) && decide (M'.2.2.2.2.2 = []) && decide (M'.2.1.cls = M'.1) && decide (M'.2.1.name = "<init>") && decide (M'.2.2.2.2.1 = none) && decide (Cond.methodLinkNest M.1 idx M'.2.1 RX11 ∈ z_nest) && z_w (.instanceMethod M'.2.1) (q.2.2.2.getD 0 0) && z_w (.initialized M'.1) (q.2.2.2.getD 1 0) && z_w (.code M'.2.1 M'.2.2.1 M'.2.2.2.1 none) (q.2.2.2.getD 2 0) && z_yok M'.2.1 i.2.2.1 && decide (M'.2.2.2.1 ≤ 41)
    | _, _ => false)
  | o => (z_cks.getD o zk_no) M i.2.1 i.2.2.1 i.2.2.2 q.1 q.2.1 q.2.2.1 q.2.2.2 (z_nxOf is) k
noncomputable def z_ckA (M : zMi) (is : List zJ) (hs : List zHd) (i : zI) (q : zJ) (k : Nat) : Bool := decide (i.1 = 99) || (decide (decode M.2.2.1 q.1 = .ok (q.2.1, q.2.2.1)) && z_ckB M is hs i q k)
/-- a handler: its row, its class, and that it begins with astore -/
noncomputable def z_ckH (M : zMi) (is : List zJ) (x : zHd) : Bool := decide (0 < x.2.2.2.1) && decide (x.2.2.2.2.2.2 < M.2.2.2.1) && decide (0 < x.2.2.2.2.2.1) && (match z_excs[x.2.2.2.2.1]?, is[x.2.2.2.2.2.1 - 1]? with
  | some E, some q => z_mem (.classLink M.1 x.2.2.2.1 E) && decide (q.1 = x.2.2.1) && decide (decode M.2.2.1 q.1 = .ok (q.2.1, q.2.2.1)) && (match q.2.1 with
    | .astore v => decide (v = x.2.2.2.2.2.2) && decide (q.2.2.1 = 2) && decide (z_nxOf is x.2.2.2.2.2.1 = q.1 + 2)
    | .astore_n v => decide ((v : Nat) = x.2.2.2.2.2.2) && decide (q.2.2.1 = 1) && decide (z_nxOf is x.2.2.2.2.2.1 = q.1 + 1)
    | _ => false)
  | _, _ => false)
noncomputable def z_ckL (M : zMi) (is : List zJ) (hs : List zHd) : Nat → List zI → List zJ → Bool
  | _, [], [] => true
  | k, i :: cs, q :: qs => z_ckA M is hs i q k && z_ckL M is hs (k + 1) cs qs
  | _, _, _ => false
noncomputable def z_ckM (M : zMi) (cs : List zI) (is : List zJ) (hs : List zHd) : Bool := decide (M.2.1.cls = M.1) && plainFor M.2.1 && decide (z_nxOf is 0 = 0) && decide (M.2.2.2.2.2 = hs.map (fun x => (x.1, x.2.1, x.2.2.1, x.2.2.2.1))) && hs.all (z_ckH M is) && z_ckL M is hs 0 cs is
noncomputable def z_OK : Prop := ∀ (j : Nat) (M : zMi) (cs : List zI) (is : List zJ) (hs : List zHd), z_ms[j]? = some M → z_cs[j]? = some cs → z_is[j]? = some is → z_hs[j]? = some hs → z_ckM M cs is hs = true
noncomputable def z_LEN : Prop := z_cs.length = z_ms.length ∧ z_is.length = z_ms.length ∧ z_hs.length = z_ms.length
theorem z_ckL_at {M : zMi} {is : List zJ} {hs : List zHd} : ∀ (k0 : Nat) (cs : List zI) (qs : List zJ), z_ckL M is hs k0 cs qs = true → ∀ (k : Nat) (i : zI), cs[k]? = some i → ∃ q, qs[k]? = some q ∧ z_ckA M is hs i q (k0 + k) = true
  | _, [], _, _, k, i, h => by simp at h
  | _, _ :: _, [], h, _, _, _ => by cases h
  | k0, c0 :: cs, q0 :: qs, h, k, i, hi => by
    rw [z_ckL, Bool.and_eq_true] at h
    match k with
    | 0 =>
      simp only [List.getElem?_cons_zero, Option.some.injEq] at hi ⊢
      subst hi
      exact ⟨q0, rfl, h.1⟩
    | k + 1 =>
      simp only [List.getElem?_cons_succ] at hi ⊢
      obtain ⟨q, e1, e2⟩ := z_ckL_at (k0 + 1) cs qs h.2 k i hi
      exact ⟨q, e1, by rw [show k0 + (k + 1) = k0 + 1 + k by omega]; exact e2⟩
end
section
/-! a throw whose class's constructor links its super constructor at another place than the usual one -/
noncomputable def z_atX (own : String) (ic : Nat) (X : String) (ix : Nat) (rx : ByteArray) (names : List String) : List Cond := (Bundle.ownAtomsX own ic X ix rx names).filter vx_no
set_option maxHeartbeats 1000000 in
theorem z_ctorX {p : Program} {l : Launch} {e : Env} {R : Room} {s : State} {m : MethodId} {args : Array Value} {below : List Frame} {meth : Method} {c : Code} {U0 : State} {locs : List Loc} {cells slots : Nat} (X : Stand p l e R s m args below meth c U0 locs cells slots) (hexec : p.tables.exec = Jvm.exec) (htr : e.platform.stackTraces = false)
    {ix : Nat} {rx : ByteArray} (x0 : decode rx 0 = .ok (.aload_n 0, 1)) (x1 : decode rx 1 = .ok (.aload_n 1, 1)) (x2 : decode rx 2 = .ok (.invokespecial ix, 3)) (x5 : decode rx 5 = .ok (.return_, 1))
    {own cls : String} {names : List String} {ic : Nat} (hown : s.vm.findClass own = some m.cls) (hcls : Bundle.fit cls = true) (hnames : ∀ n ∈ names, Bundle.fit n = true)
    (h : ∀ a ∈ Bundle.ownAtomsX own ic cls ix rx names, a.before args s = true) (hlocs : ∀ x ∈ locs, ∀ cell, s.heap[x.base]? = some cell → cell.vm.isStatics = false)
    {a : Addr} {cX : ClassId} {kX : Class} (hfX : s.vm.findClass cls = some cX) (hkX : s.vm.classes[cX]? = some kX) (hcell : U0.heap[a]? = some (freshCell cX kX)) (hnew : s.heap.size ≤ a) {msg : Value} (hmsg : msg.isRef = true)
    {g : JFrame} (hg : g.method = m) (hsize : g.locals.size = c.maxLocals) (hlk : g.locked = none) (hen : g.entered = []) {rest : List Value} (hstack : g.stack = msg :: .ref a :: .ref a :: rest)
    (hd6 : decode c.code g.pc = .ok (.invokespecial ic, 3)) (hd9 : decode c.code (g.pc + 3) = .ok (.athrow, 1)) (hout : ∀ x ∈ c.exceptionTable.toList, covers x (g.pc + 3) = false)
    (hRf : names.length + 3 < R.frames) (hRl : 2 * g.monitorRoom + ((Value.ref a :: rest).map fun v => v.category).sum + (13 * (names.length + 1) + 42) ≤ R.locals) (hlocks : meth.locks = false) :
    ∃ U : State, Steps p.tables e below (U0.setTop g) U ∧ U.status = .running ∧ Ended U below (.threw a) ∧ s.WarmedH U.vm ∧ s.sameButNew ({ U with vm := s.vm } : State) locs cells slots ∧
      ∃ ce, U.heap[a]? = some ce ∧ ce.vm = .none ∧ s.vm.findClass cls = some ce.cls := by
  have hpl : e.platform.magicAccessors = ({} : Platform).magicAccessors := by rw [X.admits.platform]
  have hw : ∀ {w : Cond}, w ∈ Bundle.ownAtomsX own ic cls ix rx names → w.holds args s none s [] = true := fun hx => h _ hx
  obtain ⟨T, Z0, L, -, Y⟩ := ThrowableC.of_atoms (args := args) (pl := e.platform) (by rw [X.admits.platform]) (by rw [X.admits.platform]) hpl (fun x hx => h x (by simp [Bundle.ownAtomsX, hx]))
  obtain ⟨Z, M, LZ, LM, hnZ⟩ := Init0T.ofS_atoms (args := args) hpl L Y (fun x hx => h x (by simp [Bundle.ownAtomsX, hx]))
  obtain ⟨P1, Ps, hlen, L1, hL, hP1, hk1, hk2⟩ := Bundle.chainSX (args := args) hpl hnZ x0 x1 x2 x5 names cls hcls hnames (fun x hx => h x (by simp [Bundle.ownAtomsX, hx]))
  have hfc : s.vm.findClass cls = some P1.m.cls := findClass_of_methodNamed hP1
  cases Option.some.inj (hfX.symm.trans hfc)
  obtain ⟨c1, kX', hc1, hk, hord, -, -, hn6⟩ := Cond.instantiable_spec (hw (w := .instantiable cls 6) (by simp [Bundle.ownAtomsX]))
  cases Option.some.inj (hc1.symm.trans hfc)
  cases Option.some.inj (hkX.symm.trans hk)
  have hs0 : selectMethod e.platform s.vm P1.m.cls T.fill0 = .method T.fill0 := by
    obtain ⟨c2, r2, m2, q1, q2, q3, q4, -⟩ := Cond.selects_spec (hw (w := .selects cls Bundle.tFill0 Bundle.tFill0) (by simp [Bundle.ownAtomsX]))
    cases Option.some.inj (q1.symm.trans hfc)
    cases Option.some.inj (q2.symm.trans (State.methodFound?_of_named Y.fill0 (by decide)))
    cases Option.some.inj (q3.symm.trans Y.fill0)
    rw [Launch.admits_selectMethod X.admits]
    exact q4
  have hsF : selectMethod e.platform s.vm P1.m.cls T.fill = .method T.fill := by
    obtain ⟨c2, r2, m2, q1, q2, q3, q4, -⟩ := Cond.selects_spec (hw (w := .selects cls Bundle.tFill Bundle.tFill) (by simp [Bundle.ownAtomsX]))
    cases Option.some.inj (q1.symm.trans hfc)
    cases Option.some.inj (q2.symm.trans (State.methodFound?_of_named Y.fill (by decide)))
    cases Option.some.inj (q3.symm.trans Y.fill)
    rw [Launch.admits_selectMethod X.admits]
    exact q4
  obtain ⟨cS0, hcS0, hiss⟩ := Y.statics
  obtain ⟨u0, hu0⟩ := Cond.staticRefV Y.unassigned L.unassignedStatic L.statics hcS0 hiss (hw (w := .isRef (.static Bundle.tN "UNASSIGNED_STACK" Bundle.steD)) (by simp [Bundle.ownAtomsX]))
  obtain ⟨sen, hsen⟩ := Cond.staticRefV Y.sentinel L.sentinelStatic L.statics hcS0 hiss (hw (w := .isRef (.static Bundle.tN "SUPPRESSED_SENTINEL" Bundle.listD)) (by simp [Bundle.ownAtomsX]))
  obtain ⟨ci198, i198, fB, b1, b2, b3, b4, -, hnB, htB, hffB⟩ := Cond.ownField (t := .object "java/lang/Object") Y.found L.cls (by decide +kernel) (hw (w := .fieldLink Bundle.tN 198 Bundle.tN "backtrace" "Ljava/lang/Object;") (by simp [Bundle.ownAtomsX])) (hw (w := .lays Bundle.tN Bundle.tN "backtrace" "Ljava/lang/Object;") (by simp [Bundle.ownAtomsX])) e.platform hpl
  obtain ⟨cS, hcS, heS, -, hkeep⟩ := X.same.2.2.2.2.2 T.aS cS0 hcS0
  have hcS : U0.heap[T.aS]? = some cS := hcS
  have hoff : ∀ i, (⟨T.aS, i⟩ : Loc) ∉ locs := fun i hmem => by
    have h9 := hlocs _ hmem cS0 hcS0
    rw [hiss] at h9
    cases h9
  have hkn : cS.vm ≠ .unknown := by
    rw [heS]
    intro hu
    rw [show cS0.vm = .unknown from hu] at hiss
    cases hiss
  have hne : T.aS ≠ a := Nat.ne_of_lt (Nat.lt_of_lt_of_le (Array.getElem?_eq_some_iff.mp hcS0).1 hnew)
  obtain ⟨iM, hffM⟩ := Y.msg
  obtain ⟨tyC, dC, hdC, hdnC⟩ := Cond.laysAt hfc hk Y.cause (hw (w := .lays cls Bundle.tN "cause" "Ljava/lang/Throwable;") (by simp [Bundle.ownAtomsX]))
  obtain ⟨tyS, dS, hdS, hdnS⟩ := Cond.laysAt hfc hk Y.stack (hw (w := .lays cls Bundle.tN "stackTrace" Bundle.steD) (by simp [Bundle.ownAtomsX]))
  obtain ⟨tyP, dP, hdP, hdnP⟩ := Cond.laysAt hfc hk Y.supp (hw (w := .lays cls Bundle.tN "suppressedExceptions" Bundle.listD) (by simp [Bundle.ownAtomsX]))
  obtain ⟨tyM, dM, hdM, hdnM⟩ := Cond.laysAt hfc hk hffM (hw (w := .lays cls Bundle.tN "detailMessage" "Ljava/lang/String;") (by simp [Bundle.ownAtomsX]))
  obtain ⟨tyB, dB, hdB, hdnB⟩ := Cond.laysAt hfc hk hffB (hw (w := .lays cls Bundle.tN "backtrace" "Ljava/lang/Object;") (by simp [Bundle.ownAtomsX]))
  have bC := Cond.laysApart hdB hdC hdnB hdnC (by rw [hnB, Y.causeName]; decide)
  have bS := Cond.laysApart hdB hdS hdnB hdnS (by rw [hnB, Y.stackName]; decide)
  have bP := Cond.laysApart hdB hdP hdnB hdnP (by rw [hnB, Y.suppName]; decide)
  have hskip : SkipFacts T e.platform s (fun u => u) u0 ((preparedCellV T.toThrowableT (freshCell P1.m.cls kX) a u0 sen).withEntry U0.cur) :=
    ⟨{ ci198 := ci198, i198 := i198, fBack := fB }, ⟨b1, b2, b3, b4⟩, by
      have h9 := fresh_default (c := P1.m.cls) tyB
      rw [htB] at h9
      simpa [preparedCellV, Cell.setSlot, Cell.withEntry, Array.getElem?_setIfInBounds, bC, bS, bP, bC.symm, bS.symm, bP.symm, defaultValue] using h9, fun _ _ => rfl⟩
  obtain ⟨tm, mC, cdC, kC, vm₁, hnC, -, -, -, -, -, -, -, hW₁, st1⟩ := Steps.initColdS (tb := p.tables) (e := e) (below := below) (s := s) (U := U0) X.here hexec X.warmed hpl hown (t := Bundle.initS cls) rfl rfl (Bundle.fit_spec hcls).2
    (hw (w := .methodLink own ic (Bundle.initS cls)) (by simp [Bundle.ownAtomsX])) (h (.instanceMethod (Bundle.initS cls)) (by cases names <;> simp [Bundle.ownAtomsX, Bundle.chainSAtomsX, Bundle.passSAtoms])) (bytes := rx) (maxL := 2) (h (.code (Bundle.initS cls) rx 2 none) (by cases names <;> simp [Bundle.ownAtomsX, Bundle.chainSAtomsX, Bundle.passSAtoms]))
    (f := g) hg (a := a) (msg := msg) (rest := .ref a :: rest) hstack hd6
  cases Option.some.inj (hnC.symm.trans hP1)
  have X₁ := X.noted hW₁
  obtain ⟨vm₂, X₂, st2⟩ := X₁.ctorMessageOffV hexec (g := { g with stack := .ref a :: rest }) hg hsize T L Z LZ M LM (P1 :: Ps)
    (fun P hP => by rcases List.mem_cons.mp hP with rfl | hP; exact L1; exact hL P hP) ⟨hk1, hk2⟩ (u0 := u0) (sen := sen) (self := a) hmsg (cell := freshCell P1.m.cls kX) (cellS := cS)
    hcell (fun _ => by simp) (by simp) rfl rfl hs0 hsF hcS hne hkn (by rw [hkeep _ (hoff _)]; exact hu0) (by rw [hkeep _ (hoff _)]; exact hsen)
    (Takes.of_laid hk hord tyC (by rw [Y.causeType]; rfl)) (Takes.of_laid hk hord tyS (by rw [Y.stackType]; exact fits_refV_array _ u0)) (Takes.of_laid hk hord tyP (by rw [Y.suppType]; exact fits_refV_object _ sen))
    (Takes.of_laid hk hord tyM (by rw [Y.msgType]; exact fits_refV_object _ ⟨msg, hmsg⟩)) Y.objLocals hskip htr [] hd6
    (by simp only [List.length_cons, hlen]; omega) (by simp only [List.length_cons, hlen]; exact hRl)
  obtain ⟨hwalk, hrun, hended, hWU, hsame⟩ := X₂.athrowLeaves hexec (g := { g with stack := .ref a :: rest, pc := g.pc + 3 }) hg hlk hen hout (a := a) (rest := rest) rfl hd9
  have hlt : a < ((U0.setVm vm₁).setVm vm₂).heap.size := (Array.getElem?_eq_some_iff.mp hcell).1
  have hU := heapAt_setCell_self (s := (U0.setVm vm₁).setVm vm₂) (plainBareV T.toThrowableT (freshCell P1.m.cls kX) a u0 sen msg) hlt
  refine ⟨_, st1 _ (fun acts => ?_), hrun, hended, hWU, hsame.weaken (fun y hy hlt' => ?_) (Nat.le_refl _) (Nat.le_refl _), _, hU, rfl, hfc⟩
  · rw [doInvoke_state]
    exact st2 _ hwalk
  · rcases List.mem_append.mp hy with h1 | h1
    · exact h1
    · have hb : y.base = a := by
        simp only [List.mem_cons, List.not_mem_nil, or_false] at h1
        rcases h1 with rfl | rfl | rfl | rfl | rfl <;> rfl
      rw [hb] at hlt'
      exact absurd hlt' (Nat.not_lt.mpr hnew)
section Ends
variable {p : Program} {l : Launch} {e : Env} {R : Room} {s : State} {m : MethodId} {args : Array Value} {below : List Frame} {meth : Method} {c : Code} {H : Heap} {locs : List Loc} {cells slots : Nat} {Q : State → Prop}
variable {mc ms : Nat} {free : Addr → Prop} {A0 A1 : Nat → Prop} {H0 : Heap} {a : Array Value} {ls : Array Slot} {st0 rest : List Value}
variable {Qc : Array Value → State → Outcome → State → Prop} {XC : String → State → State → Prop}
/-- 'throw new E("text")': new; dup; ldc; invokespecial; athrow -/
theorem z_throwX {cc : ByteArray} {pc : Nat} (hexec : p.tables.exec = Jvm.exec) (hb : c.code = cc) (hl : l.stackTraces = false) {own cls text : String} {names : List String} {ik is ic mc ms sa : Nat} {A : Nat → Prop}
    {ix : Nat} {rx : ByteArray} (x0 : decode rx 0 = .ok (.aload_n 0, 1)) (x1 : decode rx 1 = .ok (.aload_n 1, 1)) (x2 : decode rx 2 = .ok (.invokespecial ix, 3)) (x5 : decode rx 5 = .ok (.return_, 1))
    (hown : s.vm.findClass own = some m.cls) (hcls : Bundle.fit cls = true) (hnames : ∀ n ∈ names, Bundle.fit n = true)
    (hk : (Cond.classLink own ik cls).before args s = true) (hini : (Cond.initialized cls).before args s = true) (hstr : vk_R own is text sa s) (hat : ∀ w ∈ z_atX own ic cls ix rx names, w.before args s = true)
    (hgood : ∀ w ∈ Cond.classLink own ik cls :: Cond.initialized cls :: z_atX own ic cls ix rx names, vx_ot w = true)
    (hU : vx_Zq Bundle.tN "UNASSIGNED_STACK" Bundle.steD A s s.heap) (hN : vx_Zq Bundle.tN "SUPPRESSED_SENTINEL" Bundle.listD A s s.heap) (hS : va_S A s.heap H locs) (hsize : ls.size = c.maxLocals)
    (d0 : decode cc pc = .ok (.new ik, 3)) (d3 : decode cc (pc + 3) = .ok (.dup, 1)) (d4 : decode cc (pc + 4) = .ok (.ldc is, 2)) (d6 : decode cc (pc + 6) = .ok (.invokespecial ic, 3)) (d9 : decode cc (pc + 9) = .ok (.athrow, 1))
    (hout : ∀ x ∈ c.exceptionTable.toList, covers x (pc + 9) = false)
    (hRframes : names.length + 3 < R.frames) (hRlocals : (rest.map fun v => v.category).sum + (13 * (names.length + 1) + 43) ≤ R.locals) (hRcells : cells + 1 ≤ R.cells) (hRslots : slots + 6 ≤ R.slots) (hlocks : meth.locks = false)
    (hx : ∀ t : State, s.vm.Alike t.vm → H.size ≤ t.heap.size → (∀ q : Nat, q < H.size → t.heap[q]? = H[q]?) → XC cls s t)
    (hf : ∀ z ∈ locs, free z.base) (hc : cells + 1 ≤ mc) (hs : slots + 6 ≤ ms) :
    W p l e R s m args below meth c H locs cells slots (vx_MQ below Qc XC args s mc ms free) (F0 m pc ls rest) := by
  intro T hT X
  have htr : e.platform.stackTraces = false := (show e.platform.stackTraces = l.stackTraces by rw [X.admits.platform]).trans hl
  have Y := vx_rebase X (R' := { frames := R.frames, locals := R.locals, cells := 1, slots := 6 }) (Nat.le_refl _) (Nat.le_refl _) hRcells hRslots
  obtain ⟨s', hA⟩ : ∃ z, z = (T.setVm s.vm).setFrames (.invoking m args :: below) := ⟨_, rfl⟩
  rw [← hA] at Y
  have hvm : s'.vm = s.vm := by rw [hA]; rfl
  have hhp : s'.heap = H := by rw [hA]; exact hT
  have hW0 : s.WarmedH s'.vm := by rw [hvm]; exact State.WarmedH.refl s
  have hat' : ∀ w ∈ z_atX own ic cls ix rx names, w.before args s' = true := fun w hw => vx_ot_at hW0 hvm.symm (hgood w (List.mem_cons_of_mem _ (List.mem_cons_of_mem _ hw))) (hat w hw)
  have hk' : (Cond.classLink own ik cls).before args s' = true := vx_ot_at hW0 hvm.symm (hgood _ List.mem_cons_self) hk
  have hini' : (Cond.initialized cls).before args s' = true := vx_ot_at hW0 hvm.symm (hgood _ (List.mem_cons_of_mem _ List.mem_cons_self)) hini
  have hU' : vx_Zq Bundle.tN "UNASSIGNED_STACK" Bundle.steD A s' s'.heap := by rw [hhp]; exact vx_Zq.moved hW0.alike (hU.kept hS.2.1)
  have hN' : vx_Zq Bundle.tN "SUPPRESSED_SENTINEL" Bundle.listD A s' s'.heap := by rw [hhp]; exact vx_Zq.moved hW0.alike (hN.kept hS.2.1)
  have h : ∀ w ∈ Bundle.ownAtomsX own ic cls ix rx names, w.before args s' = true := vx_own hat' (vx_isRefq hU'.1) (vx_isRefq hN'.1) hU'.2.word hN'.2.word
  have hown' : s'.vm.findClass own = some m.cls := by rw [hvm]; exact hown
  have hins : (Cond.instantiable cls 6).before args s' = true := h _ (by simp [Bundle.ownAtomsX])
  obtain ⟨vm₁, cX, kX, hfX, hkX, -, -, X₁, st1⟩ := Y.newCold hexec (own := own) (C := cls) (index := ik) (n := 6) hown' hk' hins hini'
    (g := F0 m pc ls rest) rfl (by rw [hb]; exact d0) (Nat.le_refl _) (Nat.le_refl _)
  generalize hT1 : (T.setVm vm₁).pushCell { cls := cX, slots := kX.instanceTypes.map defaultValue, vm := .none } = T1 at X₁ st1
  have hcat : (Value.ref T.heap.size).category = 1 := rfl
  have hcellA : T1.heap[T.heap.size]? = some (freshCell cX kX) := by rw [← hT1]; exact State.heap_pushCell_size _ _
  have d3' : decode c.code (pc + 3) = .ok (.dup, 1) := by rw [hb]; exact d3
  have d4' : decode c.code (pc + 4) = .ok (.ldc is, 2) := by rw [hb]; exact d4
  have hstr' : vk_R own is text sa s' := vk_R.warm hW0 hstr
  obtain ⟨U, hsteps, hrun, hend, hW, hsame, ce, hce, hO⟩ := z_ctorX X₁ hexec htr x0 x1 x2 x5 (own := own) (cls := cls) (names := names) (ic := ic) hown' hcls hnames h (fun x hx => nomatch hx) hfX hkX hcellA (by rw [hhp, hT]; exact Nat.le_refl _) (msg := .ref sa) rfl
    (g := { method := m, pc := pc + 6, locals := ls, stack := .ref sa :: .ref T.heap.size :: .ref T.heap.size :: rest, locked := none }) rfl hsize rfl rfl (rest := rest) rfl
    (by rw [hb]; exact d6) (by rw [hb]; exact d9) hout hRframes (by simp only [List.map_cons, List.sum_cons, hcat]; omega) hlocks
  obtain ⟨f1, f2⟩ := vx_frame hsame
  rw [hhp] at f1 f2
  have hWs : s.WarmedH U.vm := State.WarmedH.trans hW0 hW
  have hcl : s.vm.findClass cls = some ce.cls := by
    have h9 := hO.2
    rw [hvm] at h9
    exact h9
  have hall : s.sameButNew ({ U with vm := s.vm } : State) locs mc ms := by
    subst hA
    obtain ⟨e1, e2⟩ := hsame
    rw [State.setFrames_setFrames] at e1
    have h2 : (T.setVm s.vm).sameButNew ({ U with vm := s.vm } : State) [] (0 + 1) (0 + 6) := ⟨e1, e2⟩
    have h3 := X.same.trans h2
    rw [List.append_nil] at h3
    exact h3.mono hc hs
  refine ⟨U, ?_, .threw T.heap.size, hrun, hend, Or.inr ⟨T.heap.size, rfl, cls, ce, locs, hx U hWs.alike f1 (fun q hq => f2 q hq (fun z hz => nomatch hz)), hce, hO.1, hcl, hWs, hall, hf⟩⟩
  refine st1 _ ?_
  show Steps p.tables e below (T1.setTop { method := m, pc := pc + 3, locals := ls, stack := .ref T.heap.size :: rest, locked := none }) _
  jvm_step X₁.here [X₁.here.top, hexec, d3', Value.category]
  exact X₁.ldcString hexec (own := own) (text := text) (index := is) (a := sa) hown' hstr'.1 hstr'.2
    (g := { method := m, pc := pc + 4, locals := ls, stack := .ref T.heap.size :: .ref T.heap.size :: rest, locked := none }) rfl d4' _ hsteps
/-- 'throw new E("text")', the text by a wide index -/
theorem z_throwXW {cc : ByteArray} {pc : Nat} (hexec : p.tables.exec = Jvm.exec) (hb : c.code = cc) (hl : l.stackTraces = false) {own cls text : String} {names : List String} {ik is ic mc ms sa : Nat} {A : Nat → Prop}
    {ix : Nat} {rx : ByteArray} (x0 : decode rx 0 = .ok (.aload_n 0, 1)) (x1 : decode rx 1 = .ok (.aload_n 1, 1)) (x2 : decode rx 2 = .ok (.invokespecial ix, 3)) (x5 : decode rx 5 = .ok (.return_, 1))
    (hown : s.vm.findClass own = some m.cls) (hcls : Bundle.fit cls = true) (hnames : ∀ n ∈ names, Bundle.fit n = true)
    (hk : (Cond.classLink own ik cls).before args s = true) (hini : (Cond.initialized cls).before args s = true) (hstr : vk_R own is text sa s) (hat : ∀ w ∈ z_atX own ic cls ix rx names, w.before args s = true)
    (hgood : ∀ w ∈ Cond.classLink own ik cls :: Cond.initialized cls :: z_atX own ic cls ix rx names, vx_ot w = true)
    (hU : vx_Zq Bundle.tN "UNASSIGNED_STACK" Bundle.steD A s s.heap) (hN : vx_Zq Bundle.tN "SUPPRESSED_SENTINEL" Bundle.listD A s s.heap) (hS : va_S A s.heap H locs) (hsize : ls.size = c.maxLocals)
    (d0 : decode cc pc = .ok (.new ik, 3)) (d3 : decode cc (pc + 3) = .ok (.dup, 1)) (d4 : decode cc (pc + 4) = .ok (.ldc_w is, 3)) (d7 : decode cc (pc + 7) = .ok (.invokespecial ic, 3)) (d10 : decode cc (pc + 10) = .ok (.athrow, 1))
    (hout : ∀ x ∈ c.exceptionTable.toList, covers x (pc + 10) = false)
    (hRframes : names.length + 3 < R.frames) (hRlocals : (rest.map fun v => v.category).sum + (13 * (names.length + 1) + 43) ≤ R.locals) (hRcells : cells + 1 ≤ R.cells) (hRslots : slots + 6 ≤ R.slots) (hlocks : meth.locks = false)
    (hx : ∀ t : State, s.vm.Alike t.vm → H.size ≤ t.heap.size → (∀ q : Nat, q < H.size → t.heap[q]? = H[q]?) → XC cls s t)
    (hf : ∀ z ∈ locs, free z.base) (hc : cells + 1 ≤ mc) (hs : slots + 6 ≤ ms) :
    W p l e R s m args below meth c H locs cells slots (vx_MQ below Qc XC args s mc ms free) (F0 m pc ls rest) := by
  intro T hT X
  have htr : e.platform.stackTraces = false := (show e.platform.stackTraces = l.stackTraces by rw [X.admits.platform]).trans hl
  have Y := vx_rebase X (R' := { frames := R.frames, locals := R.locals, cells := 1, slots := 6 }) (Nat.le_refl _) (Nat.le_refl _) hRcells hRslots
  obtain ⟨s', hA⟩ : ∃ z, z = (T.setVm s.vm).setFrames (.invoking m args :: below) := ⟨_, rfl⟩
  rw [← hA] at Y
  have hvm : s'.vm = s.vm := by rw [hA]; rfl
  have hhp : s'.heap = H := by rw [hA]; exact hT
  have hW0 : s.WarmedH s'.vm := by rw [hvm]; exact State.WarmedH.refl s
  have hat' : ∀ w ∈ z_atX own ic cls ix rx names, w.before args s' = true := fun w hw => vx_ot_at hW0 hvm.symm (hgood w (List.mem_cons_of_mem _ (List.mem_cons_of_mem _ hw))) (hat w hw)
  have hk' : (Cond.classLink own ik cls).before args s' = true := vx_ot_at hW0 hvm.symm (hgood _ List.mem_cons_self) hk
  have hini' : (Cond.initialized cls).before args s' = true := vx_ot_at hW0 hvm.symm (hgood _ (List.mem_cons_of_mem _ List.mem_cons_self)) hini
  have hU' : vx_Zq Bundle.tN "UNASSIGNED_STACK" Bundle.steD A s' s'.heap := by rw [hhp]; exact vx_Zq.moved hW0.alike (hU.kept hS.2.1)
  have hN' : vx_Zq Bundle.tN "SUPPRESSED_SENTINEL" Bundle.listD A s' s'.heap := by rw [hhp]; exact vx_Zq.moved hW0.alike (hN.kept hS.2.1)
  have h : ∀ w ∈ Bundle.ownAtomsX own ic cls ix rx names, w.before args s' = true := vx_own hat' (vx_isRefq hU'.1) (vx_isRefq hN'.1) hU'.2.word hN'.2.word
  have hown' : s'.vm.findClass own = some m.cls := by rw [hvm]; exact hown
  have hins : (Cond.instantiable cls 6).before args s' = true := h _ (by simp [Bundle.ownAtomsX])
  obtain ⟨vm₁, cX, kX, hfX, hkX, -, -, X₁, st1⟩ := Y.newCold hexec (own := own) (C := cls) (index := ik) (n := 6) hown' hk' hins hini'
    (g := F0 m pc ls rest) rfl (by rw [hb]; exact d0) (Nat.le_refl _) (Nat.le_refl _)
  generalize hT1 : (T.setVm vm₁).pushCell { cls := cX, slots := kX.instanceTypes.map defaultValue, vm := .none } = T1 at X₁ st1
  have hcat : (Value.ref T.heap.size).category = 1 := rfl
  have hcellA : T1.heap[T.heap.size]? = some (freshCell cX kX) := by rw [← hT1]; exact State.heap_pushCell_size _ _
  have d3' : decode c.code (pc + 3) = .ok (.dup, 1) := by rw [hb]; exact d3
  have d4' : decode c.code (pc + 4) = .ok (.ldc_w is, 3) := by rw [hb]; exact d4
  have hstr' : vk_R own is text sa s' := vk_R.warm hW0 hstr
  obtain ⟨U, hsteps, hrun, hend, hW, hsame, ce, hce, hO⟩ := z_ctorX X₁ hexec htr x0 x1 x2 x5 (own := own) (cls := cls) (names := names) (ic := ic) hown' hcls hnames h (fun x hx => nomatch hx) hfX hkX hcellA (by rw [hhp, hT]; exact Nat.le_refl _) (msg := .ref sa) rfl
    (g := { method := m, pc := pc + 7, locals := ls, stack := .ref sa :: .ref T.heap.size :: .ref T.heap.size :: rest, locked := none }) rfl hsize rfl rfl (rest := rest) rfl
    (by rw [hb]; exact d7) (by rw [hb]; exact d10) hout hRframes (by simp only [List.map_cons, List.sum_cons, hcat]; omega) hlocks
  obtain ⟨f1, f2⟩ := vx_frame hsame
  rw [hhp] at f1 f2
  have hWs : s.WarmedH U.vm := State.WarmedH.trans hW0 hW
  have hcl : s.vm.findClass cls = some ce.cls := by
    have h9 := hO.2
    rw [hvm] at h9
    exact h9
  have hall : s.sameButNew ({ U with vm := s.vm } : State) locs mc ms := by
    subst hA
    obtain ⟨e1, e2⟩ := hsame
    rw [State.setFrames_setFrames] at e1
    have h2 : (T.setVm s.vm).sameButNew ({ U with vm := s.vm } : State) [] (0 + 1) (0 + 6) := ⟨e1, e2⟩
    have h3 := X.same.trans h2
    rw [List.append_nil] at h3
    exact h3.mono hc hs
  refine ⟨U, ?_, .threw T.heap.size, hrun, hend, Or.inr ⟨T.heap.size, rfl, cls, ce, locs, hx U hWs.alike f1 (fun q hq => f2 q hq (fun z hz => nomatch hz)), hce, hO.1, hcl, hWs, hall, hf⟩⟩
  refine st1 _ ?_
  show Steps p.tables e below (T1.setTop { method := m, pc := pc + 3, locals := ls, stack := .ref T.heap.size :: rest, locked := none }) _
  jvm_step X₁.here [X₁.here.top, hexec, d3', Value.category]
  exact X₁.ldcStringW hexec (own := own) (text := text) (index := is) (a := sa) hown' hstr'.1 hstr'.2
    (g := { method := m, pc := pc + 4, locals := ls, stack := .ref T.heap.size :: .ref T.heap.size :: rest, locked := none }) rfl d4' _ hsteps
end Ends
noncomputable def z_six13 : ByteArray := ⟨#[0x2a, 0x2b, 0xb7, 0x00, 0x0d, 0xb1]⟩
noncomputable def z_rxOk (q : Nat × ByteArray) : Prop := decode q.2 0 = .ok (.aload_n 0, 1) ∧ decode q.2 1 = .ok (.aload_n 1, 1) ∧ decode q.2 2 = .ok (.invokespecial q.1, 3) ∧ decode q.2 5 = .ok (.return_, 1)
theorem z_rx7 : z_rxOk (7, Bundle.six) := ⟨by decide +kernel, by decide +kernel, by decide +kernel, by decide +kernel⟩
theorem z_rx13 : z_rxOk (13, z_six13) := ⟨by decide +kernel, by decide +kernel, by decide +kernel, by decide +kernel⟩
/-! bodies of methods that no native entry stands for -/
theorem z_ofWF {l : Launch} {y : MethodName} {ws ws' : List Cond} {rm : Room} {Pc : Array Value → State → Prop} {Qc : Array Value → State → Outcome → State → Prop} {XC : String → State → State → Prop} {mc ms : Nat} {free : Addr → Prop} {cc : ByteArray} {maxL : Nat} {ret : Option FieldType}
    (hy : plainFor y = true) (hw : ws = Cond.code y cc maxL ret :: ws')
    (body : ∀ p e s m args below meth c s₁, BodyLoose p l y (headSpec ws rm) cc maxL ret e s m args below meth c s₁ → c.maxLocals = maxL → (∀ x ∈ c.exceptionTable.toList, False) → Pc args s →
      W p l e (headSpec ws rm).room s m args below meth c s.heap [] 0 0 (vx_MQ below Qc XC args s mc ms free) (entryFrame m args maxL)) : vx_Met l y ws rm Pc Qc XC mc ms free := by
  refine Jvm.Free.MetFree.of_bodySF (code := cc) (maxLocals := maxL) (ret := ret) hy ?_ ?_
  · intro args s m h hn
    obtain ⟨meth, c, h1, h2, h3, h4, h5, h6, -, -⟩ := Cond.code_spec hn (atoms_spec (ws := ws) h _ (by rw [hw]; exact List.mem_cons_self))
    exact ⟨meth, c, h1, h2, h3, h4, h5, h6⟩
  · intro p e s m args below meth c s₁ B hml hP _
    have hh0 : s₁.heap = s.heap := by rw [B.state]; rfl
    have ht : ∀ x ∈ c.exceptionTable.toList, False := by
      obtain ⟨meth9, c9, h1, h2, -, -, -, -, h7, -⟩ := Cond.code_spec B.named (atoms_spec (ws := ws) B.pre _ (by rw [hw]; exact List.mem_cons_self))
      cases Option.some.inj (h1.symm.trans B.method)
      cases Option.some.inj (h2.symm.trans (Stand.of_body B).code)
      intro x hx
      rw [Array.isEmpty_iff.mp h7] at hx
      cases hx
    obtain ⟨t, a1, o, b1, b2, b3⟩ := body p e s m args below meth c s₁ B hml ht hP s₁ hh0 (Stand.of_body B)
    exact ⟨t, o, a1, b1, b2, b3⟩
theorem z_ofWHF {l : Launch} {y : MethodName} {ws ws' : List Cond} {rm : Room} {Pc : Array Value → State → Prop} {Qc : Array Value → State → Outcome → State → Prop} {XC : String → State → State → Prop} {mc ms : Nat} {free : Addr → Prop} {cc : ByteArray} {maxL : Nat} {ret : Option FieldType} {hh : List (Nat × Nat × Nat × Nat)}
    (hy : plainFor y = true) (hw : ws = Cond.codeWith y cc maxL ret hh :: ws')
    (body : ∀ p e s m args below meth c s₁, BodyLoose p l y (headSpec ws rm) cc maxL ret e s m args below meth c s₁ → c.maxLocals = maxL → Pc args s →
      W p l e (headSpec ws rm).room s m args below meth c s.heap [] 0 0 (vx_MQ below Qc XC args s mc ms free) (entryFrame m args maxL)) : vx_Met l y ws rm Pc Qc XC mc ms free := by
  refine Jvm.Free.MetFree.of_bodySF (code := cc) (maxLocals := maxL) (ret := ret) hy ?_ ?_
  · intro args s m h hn
    obtain ⟨m9, meth, c, hn9, h1, h2, h3, h4, -, h5, h6, -⟩ := Cond.codeWith_spec (atoms_spec (ws := ws) h _ (by rw [hw]; exact List.mem_cons_self))
    cases hn.symm.trans hn9
    exact ⟨meth, c, h1, h2, h3, h4, h5, h6⟩
  · intro p e s m args below meth c s₁ B hml hP _
    have hh0 : s₁.heap = s.heap := by rw [B.state]; rfl
    obtain ⟨t, a1, o, b1, b2, b3⟩ := body p e s m args below meth c s₁ B hml hP s₁ hh0 (Stand.of_body B)
    exact ⟨t, o, a1, b1, b2, b3⟩
end
section
theorem z_ckB50 {M : zMi} {is : List zJ} {hs : List zHd} {i : zI} {q : zJ} {k : Nat} (h : i.1 = 50) : z_ckB M is hs i q k = (match q.2.1 with | .ireturn => decide (q.2.2.1 = 1) | _ => false) := by
  unfold z_ckB
  rw [h]
  all_goals rfl
theorem z_ckB51 {M : zMi} {is : List zJ} {hs : List zHd} {i : zI} {q : zJ} {k : Nat} (h : i.1 = 51) : z_ckB M is hs i q k = (match q.2.1 with | .lreturn => decide (q.2.2.1 = 1) && decide (M.2.2.2.2.1 = some .long) | _ => false) := by
  unfold z_ckB
  rw [h]
  all_goals rfl
theorem z_ckB52 {M : zMi} {is : List zJ} {hs : List zHd} {i : zI} {q : zJ} {k : Nat} (h : i.1 = 52) : z_ckB M is hs i q k = (match q.2.1 with | .areturn => decide (q.2.2.1 = 1) && (match M.2.2.2.2.1 with | some (.object _) => true | some (.array _) => true | _ => false) | _ => false) := by
  unfold z_ckB
  rw [h]
  all_goals rfl
theorem z_ckB53 {M : zMi} {is : List zJ} {hs : List zHd} {i : zI} {q : zJ} {k : Nat} (h : i.1 = 53) : z_ckB M is hs i q k = (match q.2.1 with | .return_ => decide (q.2.2.1 = 1) && decide (M.2.2.2.2.1 = none) | _ => false) := by
  unfold z_ckB
  rw [h]
  all_goals rfl
theorem z_ckB62 {M : zMi} {is : List zJ} {hs : List zHd} {i : zI} {q : zJ} {k : Nat} (h : i.1 = 62) : z_ckB M is hs i q k = (match q.2.1, z_excs[i.2.1]?, z_ics[i.2.1]?, z_strs[i.2.2.1]? with
    | .new ik, some cls, some ic, some sq => decide (M.1 = RX11) && decide (hs = []) && decide (q.2.2.1 = 3) && z_w (.classLink M.1 ik cls) (q.2.2.2.getD 0 0) && z_w (.initialized cls) (q.2.2.2.getD 1 0) && decide (sq.1 = M.1) && decide (decode M.2.2.1 (q.1 + 3) = .ok (.dup, 1)) && ((decide (decode M.2.2.1 (q.1 + 4) = .ok (.ldc sq.2.1, 2)) && decide (decode M.2.2.1 (q.1 + 6) = .ok (.invokespecial ic, 3)) && decide (decode M.2.2.1 (q.1 + 9) = .ok (.athrow, 1))) || (decide (decode M.2.2.1 (q.1 + 4) = .ok (.ldc_w sq.2.1, 3)) && decide (decode M.2.2.1 (q.1 + 7) = .ok (.invokespecial ic, 3)) && decide (decode M.2.2.1 (q.1 + 10) = .ok (.athrow, 1))))
    | _, _, _, _ => false) := by
  unfold z_ckB
  rw [h]
  all_goals rfl
theorem z_ckB54 {M : zMi} {is : List zJ} {hs : List zHd} {i : zI} {q : zJ} {k : Nat} (h : i.1 = 54) : z_ckB M is hs i q k = (match q.2.1, z_ms[i.2.1]? with
    | .invokevirtual idx, some M' => decide (q.2.2.1 = 3) && decide (z_nxOf is (k + 1) = q.1 + 3) && decide (M'.2.2.2.2.2 = []) && decide (M'.2.1.cls = M'.1) && decide ((vwCl[i.2.2.2.toNat]?).map (fun x => x.1) = some M'.1) && decide (0 ≤ i.2.2.2) && z_w (.methodLink M.1 idx M'.2.1) (q.2.2.2.getD 0 0) && z_w (.instanceMethod M'.2.1) (q.2.2.2.getD 1 0) && z_w (.selects M'.1 M'.2.1 M'.2.1) (q.2.2.2.getD 2 0) && z_w (.initialized M'.1) (q.2.2.2.getD 3 0) && z_w (.code M'.2.1 M'.2.2.1 M'.2.2.2.1 M'.2.2.2.2.1) (q.2.2.2.getD 4 0) && z_yok M'.2.1 i.2.2.1 && decide (M'.2.2.2.1 ≤ 41) && hs.all (fun x => decide (x.1 ≤ q.1) && decide (q.1 < x.2.1))
    | _, _ => false) := by
  unfold z_ckB
  rw [h]
  all_goals rfl
theorem z_ckB55 {M : zMi} {is : List zJ} {hs : List zHd} {i : zI} {q : zJ} {k : Nat} (h : i.1 = 55) : z_ckB M is hs i q k = (match q.2.1, z_ms[i.2.1]? with
    | .invokestatic idx, some M' => decide (q.2.2.1 = 3) && decide (z_nxOf is (k + 1) = q.1 + 3) && decide (M'.2.2.2.2.2 = []) && decide (M'.2.1.cls = M'.1) && z_w (.methodLink M.1 idx M'.2.1) (q.2.2.2.getD 0 0) && z_w (.static M'.2.1) (q.2.2.2.getD 1 0) && z_w (.initialized M'.1) (q.2.2.2.getD 2 0) && z_w (.code M'.2.1 M'.2.2.1 M'.2.2.2.1 M'.2.2.2.2.1) (q.2.2.2.getD 3 0) && z_yok M'.2.1 i.2.2.1 && decide (M'.2.2.2.1 ≤ 41)
    | _, _ => false) := by
  unfold z_ckB
  rw [h]
  all_goals rfl
theorem z_ckB72 {M : zMi} {is : List zJ} {hs : List zHd} {i : zI} {q : zJ} {k : Nat} (h : i.1 = 72) : z_ckB M is hs i q k = (match q.2.1, z_ms[i.2.1]? with
    | .invokestatic idx, some M' => decide (q.2.2.1 = 3) && decide (z_nxOf is (k + 1) = q.1 + 3) && !decide (M'.2.2.2.2.2 = []) && decide (M'.2.1.cls = M'.1) && z_w (.methodLink M.1 idx M'.2.1) (q.2.2.2.getD 0 0) && z_w (.static M'.2.1) (q.2.2.2.getD 1 0) && z_w (.initialized M'.1) (q.2.2.2.getD 2 0) && z_w (.codeWith M'.2.1 M'.2.2.1 M'.2.2.2.1 M'.2.2.2.2.1 M'.2.2.2.2.2) (q.2.2.2.getD 3 0) && z_yok M'.2.1 i.2.2.1 && decide (M'.2.2.2.1 ≤ 41)
    | _, _ => false) := by
  unfold z_ckB
  rw [h]
  all_goals rfl
theorem z_ckB56 {M : zMi} {is : List zJ} {hs : List zHd} {i : zI} {q : zJ} {k : Nat} (h : i.1 = 56) : z_ckB M is hs i q k = (match q.2.1, z_ms[i.2.1]? with
    | .invokespecial idx, some M' => decide (q.2.2.1 = 3) && decide (z_nxOf is (k + 1) = q.1 + 3) && decide (M'.2.2.2.2.2 = []) && decide (M'.2.1.cls = M'.1) && decide (M'.2.1.name = "<init>") && decide (M'.2.2.2.2.1 = none) && z_w (.methodLink M.1 idx M'.2.1) (q.2.2.2.getD 0 0) && z_w (.instanceMethod M'.2.1) (q.2.2.2.getD 1 0) && z_w (.initialized M'.1) (q.2.2.2.getD 2 0) && z_w (.code M'.2.1 M'.2.2.1 M'.2.2.2.1 none) (q.2.2.2.getD 3 0) && z_yok M'.2.1 i.2.2.1 && decide (M'.2.2.2.1 ≤ 41)
    | _, _ => false) := by
  unfold z_ckB
  rw [h]
  all_goals rfl
theorem z_ckB73 {M : zMi} {is : List zJ} {hs : List zHd} {i : zI} {q : zJ} {k : Nat} (h : i.1 = 73) : z_ckB M is hs i q k = (match q.2.1, z_ms[i.2.1]? with
    | .invokespecial idx, some M' => decide (q.2.2.1 = 3) && decide (z_nxOf is (k + 1) = q.1 + 3) && decide (M'.2.2.2.2.2 = []) && decide (M'.2.1.cls = M'.1) && decide (M'.2.1.name = "<init>") && decide (M'.2.2.2.2.1 = none) && decide (Cond.methodLinkNest M.1 idx M'.2.1 RX11 ∈ z_nest) && z_w (.instanceMethod M'.2.1) (q.2.2.2.getD 0 0) && z_w (.initialized M'.1) (q.2.2.2.getD 1 0) && z_w (.code M'.2.1 M'.2.2.1 M'.2.2.2.1 none) (q.2.2.2.getD 2 0) && z_yok M'.2.1 i.2.2.1 && decide (M'.2.2.2.1 ≤ 41)
    | _, _ => false) := by
  unfold z_ckB
  rw [h]
  all_goals rfl
end
