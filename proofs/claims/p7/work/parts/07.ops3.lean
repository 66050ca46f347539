/-! the last switch -/
noncomputable def z_lkr : List (Int × Nat) → Nat → Int → Nat
  | [], d, _ => d
  | (a, n) :: r, d, k => if a = k then n else z_lkr r d k
noncomputable def zo_lsw2 : zNop := fun _ _ a _ _ _ l st h => match st with
  | .int x :: st => match z_lk[a]? with
    | some t => zn (z_lkr t.1 t.2 x.toInt) l st h
    | none => none
  | _ => none
noncomputable def zk_lsw2 : zCk := fun _ a _ _ pc ins _ _ nx _ => match ins with
  | .lookupswitch dflt ps => match z_lk[a]? with
    | some t => decide ((pc : Int) + dflt = (nx t.2 : Int)) && decide (ps.toList.map (fun q => (q.1, (pc : Int) + q.2)) = t.1.map (fun q => (q.1, (nx q.2 : Int)))) && (ps.toList.zip (ps.toList.drop 1)).all (fun (a, next) => a.1 < next.1)
    | none => false
  | _ => false
theorem z_lkr_ok (nx : Nat → Nat) (pc : Nat) (d : Nat) (dflt key : Int) (hdf : (pc : Int) + dflt = (nx d : Int)) : ∀ (ps : List (Int × Int)) (t : List (Int × Nat)), ps.map (fun q => (q.1, (pc : Int) + q.2)) = t.map (fun q => (q.1, (nx q.2 : Int))) → (pc : Int) + Op.lookupswitch.offset ps dflt key = (nx (z_lkr t d key) : Int)
  | [], [], _ => hdf
  | [], _ :: _, h => by simp at h
  | _ :: _, [], h => by simp at h
  | (a, o) :: ps, (b, n) :: t, h => by
    simp only [List.map_cons, List.cons.injEq, Prod.mk.injEq] at h
    obtain ⟨⟨h1, h2⟩, h3⟩ := h
    subst h1
    rw [Op.lookupswitch.offset_cons, z_lkr]
    by_cases hk : a = key
    · rw [if_pos hk, if_pos hk]; exact h2
    · rw [if_neg hk, if_neg hk]; exact z_lkr_ok nx pc d dflt key hdf ps t h3
theorem zs_lsw2 : z_Sn zo_lsw2 zk_lsw2 := by
  intro p l e R s m args below meth c Z D tc adK adV sb sx M nx ad0 n0 C S d Q a b ci k ins len pl hF hK hA hR hd hck lo st h k' lo' st' h' x y hop kc ks hW
  unfold zo_lsw2 at hop
  split at hop
  case h_2 => cases hop
  next vx st2 =>
  split at hop
  case h_2 => cases hop
  next t ht =>
  obtain ⟨rfl, rfl, rfl, rfl, rfl, rfl⟩ := zn_inj hop
  obtain ⟨hx, hb, hml, hr, hown, hts, -⟩ := hF
  intro ad H locs ls cells slots q1 q2 q3 q4 q5 q6 q7 q8 q9
  have kk := hW ad H locs ls cells slots q1 q2 q3 q4 q5 q6 (z_okT q7) q8 q9
  unfold zk_lsw2 at hck
  split at hck
  case h_2 => cases hck
  next dflt ps =>
  rw [ht] at hck
  simp only [Bool.and_eq_true, decide_eq_true_eq] at hck
  obtain ⟨⟨h1, h2⟩, h3⟩ := hck
  exact lv_lookup hx hb hd h3 rfl (z_lkr_ok nx (nx k) t.2 dflt vx.toInt h1 ps.toList t.1 h2) kk
/-! the classes of the objects -/
theorem z_pl {ws : List Cond} (ps : List Nat) (hl : ws.length = ps.length) (h : (ws.zip ps).all (fun q => z_w q.1 q.2) = true) : ∀ w ∈ ws, w ∈ z_T := by
  intro w hw
  obtain ⟨i, hi, he⟩ := List.mem_iff_getElem.mp hw
  have hz : (w, ps[i]'(by omega)) ∈ ws.zip ps := by
    rw [← he]
    exact List.mem_iff_getElem.mpr ⟨i, by rw [List.length_zip]; omega, by simp⟩
  exact z_w_in (List.all_eq_true.mp h _ hz)
noncomputable def z_clsP (ci : Nat) (q : vw_C) : Prop := (∀ w ∈ u_ws q.1 q.2.1 q.2.2, w ∈ z_T) ∧ ∃ ty : Nat → FieldType, (∀ k, k < q.2.2 → parseFieldDescriptor (q.2.1 k).2.2.1 = some (ty k)) ∧ (∀ a, a < q.2.2 → ∀ b, b < q.2.2 → a ≠ b → (q.2.1 a).2.1 ≠ (q.2.1 b).2.1) ∧ ∀ j, j < q.2.2 → defaultValue (ty j) = vp_V (z_df.getD ci []) j
theorem z_cls0 : z_clsP 0 (RX1, TX1, 5) := ⟨z_pl z_lp0 rfl (by decide +kernel), tyX1, tyX1_ok, nmX1, by decide +kernel⟩
theorem z_cls1 : z_clsP 1 (RX2, TX2, 18) := ⟨z_pl z_lp1 rfl (by decide +kernel), tyX2, tyX2_ok, nmX2, by decide +kernel⟩
theorem z_cls2 : z_clsP 2 (RX3, TX3, 6) := ⟨z_pl z_lp2 rfl (by decide +kernel), tyX3, tyX3_ok, nmX3, by decide +kernel⟩
theorem z_cls3 : z_clsP 3 (RX4, TX4, 6) := ⟨z_pl z_lp3 rfl (by decide +kernel), tyX4, tyX4_ok, nmX4, by decide +kernel⟩
theorem z_cls4 : z_clsP 4 (RX5, TX5, 3) := ⟨z_pl z_lp4 rfl (by decide +kernel), tyX5, tyX5_ok, nmX5, by decide +kernel⟩
theorem z_cls5 : z_clsP 5 (RX6, TX6, 3) := ⟨z_pl z_lp5 rfl (by decide +kernel), tyX6, tyX6_ok, nmX6, by decide +kernel⟩
theorem z_cls6 : z_clsP 6 (RX8, TX8, 4) := ⟨z_pl z_lp6 rfl (by decide +kernel), tyX8, tyX8_ok, nmX8, by decide +kernel⟩
theorem z_cls7 : z_clsP 7 (RX9, TX9, 4) := ⟨z_pl z_lp7 rfl (by decide +kernel), tyX9, tyX9_ok, nmX9, by decide +kernel⟩
theorem z_cls8 : z_clsP 8 (RX11, TX11, 8) := ⟨z_pl z_lp8 rfl (by decide +kernel), tyX11, tyX11_ok, nmX11, by decide +kernel⟩
theorem z_cls9 : z_clsP 9 (RX12, TX12, 23) := ⟨z_pl z_lp9 rfl (by decide +kernel), tyX12, tyX12_ok, nmX12, by decide +kernel⟩
theorem z_cls : ∀ (ci : Nat) (q : vw_C), vwCl[ci]? = some q → z_clsP ci q
  | 0, q, h => by cases h; exact z_cls0
  | 1, q, h => by cases h; exact z_cls1
  | 2, q, h => by cases h; exact z_cls2
  | 3, q, h => by cases h; exact z_cls3
  | 4, q, h => by cases h; exact z_cls4
  | 5, q, h => by cases h; exact z_cls5
  | 6, q, h => by cases h; exact z_cls6
  | 7, q, h => by cases h; exact z_cls7
  | 8, q, h => by cases h; exact z_cls8
  | 9, q, h => by cases h; exact z_cls9
  | n + 10, q, h => by simp [vwCl] at h
/-! fields -/
noncomputable def zo_get : zNop := fun _ _ a b _ k l st h => match st with
  | .ref i :: st => match h[i]? with
    | some (.inr (c, fs)) => if c = a then (match fs[b]? with | some v => zn (k + 1) l (v :: st) h | none => none) else none
    | _ => none
  | _ => none
noncomputable def zk_get : zCk := fun M a b _ pc ins len pl nx k => match ins with
  | .getfield idx => decide (len = 3) && decide (nx (k + 1) = pc + 3) && (match vwCl[a]? with
    | some q => decide (b < q.2.2) && z_w (.fieldLink M.1 idx (q.2.1 b).1 (q.2.1 b).2.1 (q.2.1 b).2.2.1) (pl.getD 0 0)
    | none => false)
  | _ => false
theorem z_R_fs {Z : Nat} {D : va_G} {tc : Nat → ClassId} {ad : Nat → Nat} {h : zH} {H : Heap} (hR : z_R Z D tc ad h H) {i c : Nat} {fs : List Value} (he : h[i]? = some (.inr (c, fs))) {v : Value} (hv : v ∈ fs) : z_okV h.length v := hR.2.2.1 _ (List.mem_of_getElem? he) v hv
theorem zs_get : z_Sn zo_get zk_get := by
  intro p l e R s m args below meth c Z D tc adK adV sb sx M nx ad0 n0 C S d Q a b ci k ins len pl hF hK hA hR hd hck lo st h k' lo' st' h' x y hop kc ks hW
  unfold zo_get at hop
  split at hop
  case h_2 => cases hop
  next i st2 =>
  split at hop
  case h_2 => cases hop
  next c' fs he =>
  by_cases hca : c' = a
  case neg => rw [if_neg hca] at hop; cases hop
  rw [if_pos hca] at hop
  subst hca
  split at hop
  case h_2 => cases hop
  next v hv =>
  obtain ⟨rfl, rfl, rfl, rfl, rfl, rfl⟩ := zn_inj hop
  obtain ⟨hx, hb, hml, hr, hown, hts, -⟩ := hF
  intro ad H locs ls cells slots q1 q2 q3 q4 q5 q6 q7 q8 q9
  have kk := hW ad H locs ls cells slots q1 q2 q3 q4 q5 q6 (z_okC (z_R_fs q1 he (List.mem_of_getElem? hv)) (z_okT q7)) q8 q9
  unfold zk_get at hck
  split at hck
  case h_2 => cases hck
  next idx =>
  simp only [Bool.and_eq_true, decide_eq_true_eq] at hck
  obtain ⟨⟨rfl, hn⟩, hck⟩ := hck
  rw [hn] at kk
  split at hck
  case h_2 => cases hck
  next q hq =>
  simp only [Bool.and_eq_true, decide_eq_true_eq] at hck
  obtain ⟨h1, h2⟩ := hck
  exact va_get (C := q.1) (T := q.2.1) (N := q.2.2) hx hb hts (z_cls c' q hq).1 hown hK.2.1 q1.1 i (z_ws_get he) hq b h1 (hts _ (z_w_in h2)) (fun _ h9 => h9) (v := z_tr ad v) (by rw [List.getElem?_map, hv]; rfl) hd kk
/-- what a field of kind c (0 int, 1 boolean, 2 reference) may hold -/
noncomputable def z_fit (c : Int) (v : Value) : Bool := match v with
  | .int x => decide (c = 0) || (decide (c = 1) && (decide (x = 0) || decide (x = 1)))
  | .ref _ => decide (c = 2)
  | .null => decide (c = 2)
  | _ => false
noncomputable def z_kind (c : Int) (t : Option FieldType) : Bool := match t with
  | some .int => decide (c = 0)
  | some .boolean => decide (c = 1)
  | some (.object _) => decide (c = 2)
  | some (.array _) => decide (c = 2)
  | _ => false
theorem z_fit_ok {c : Int} {v : Value} {ty : FieldType} (ad : Nat → Nat) (h : z_fit c v = true) (hk : z_kind c (some ty) = true) : narrow ty (z_tr ad v) = z_tr ad v ∧ fits ty (z_tr ad v) = true := by
  cases ty <;> simp only [z_kind, decide_eq_true_eq, Bool.false_eq_true] at hk <;> subst hk <;> cases v <;> simp [z_fit] at h <;> simp [z_tr, narrow, fits]
  rcases h with rfl | rfl <;> decide
noncomputable def zo_put : zNop := fun _ _ a b c k l st h => match st with
  | v :: .ref i :: st => match h[i]? with
    | some (.inr (c', fs)) => if c' = a ∧ b < fs.length ∧ z_fit c v = true then zn (k + 1) l st (h.set i (.inr (c', fs.set b v))) else none
    | _ => none
  | _ => none
noncomputable def zk_put : zCk := fun M a b c pc ins len pl nx k => match ins with
  | .putfield idx => decide (len = 3) && decide (nx (k + 1) = pc + 3) && (match vwCl[a]? with
    | some q => decide (b < q.2.2) && z_w (.fieldLink M.1 idx (q.2.1 b).1 (q.2.1 b).2.1 (q.2.1 b).2.2.1) (pl.getD 0 0) && z_kind c (parseFieldDescriptor (q.2.1 b).2.2.1) && (!(q.2.1 b).2.2.2 || (decide (M.2.1.name = "<init>") && decide ((q.2.1 b).1 = M.1)))
    | none => false)
  | _ => false
theorem zs_put : z_Sn zo_put zk_put := by
  intro p l e R s m args below meth c Z D tc adK adV sb sx M nx ad0 n0 C S d Q a b ci k ins len pl hF hK hA hR hd hck lo st h k' lo' st' h' x y hop kc ks hW
  unfold zo_put at hop
  split at hop
  case h_2 => cases hop
  next v i st2 =>
  split at hop
  case h_2 => cases hop
  next c' fs he =>
  by_cases hca : c' = a ∧ b < fs.length ∧ z_fit ci v = true
  case neg => rw [if_neg hca] at hop; cases hop
  rw [if_pos hca] at hop
  obtain ⟨rfl, hbl, hft⟩ := hca
  obtain ⟨rfl, rfl, rfl, rfl, rfl, rfl⟩ := zn_inj hop
  obtain ⟨hx, hb, hml, hr, hown, hts, -, -, hnm⟩ := hF
  intro ad H locs ls cells slots q1 q2 q3 q4 q5 q6 q7 q8 q9
  unfold zk_put at hck
  split at hck
  case h_2 => cases hck
  next idx =>
  simp only [Bool.and_eq_true, decide_eq_true_eq] at hck
  obtain ⟨⟨rfl, hn⟩, hck⟩ := hck
  split at hck
  case h_2 => cases hck
  next q hq =>
  simp only [Bool.and_eq_true, decide_eq_true_eq] at hck
  obtain ⟨⟨⟨h1, h2⟩, h3⟩, h4⟩ := hck
  obtain ⟨ty, hty, hnd, -⟩ := (z_cls c' q hq).2
  have hty1 := hty b h1
  rw [hty1] at h3
  obtain ⟨f1, f2⟩ := z_fit_ok ad hft h3
  have fin : ∀ (H1 : Heap) (locs1 : List Loc), va_P D vwCl ((z_ws ad tc h).set i (ad i, .inr (c', (fs.map (z_tr ad)).set b (z_tr ad v)))) H1 → va_D (fun q => Z ≤ q) ((z_ws ad tc h).set i (ad i, .inr (c', (fs.map (z_tr ad)).set b (z_tr ad v)))) → va_S (fun q => Z ≤ q) s.heap H1 locs1 → W p l e R s m args below meth c H1 locs1 cells slots Q (F0 m (nx k + 3) ls (st'.map (z_tr ad))) := by
    intro H1 locs1 g1 g2 g3
    rw [← List.map_set] at g1 g2
    have okE : z_okE h.length (.inr (c', fs.set b v)) := fun w hw => by
      rcases List.mem_or_eq_of_mem_set hw with z | z
      · exact z_R_fs q1 he z
      · rw [z]; exact z_ok1 q7
    have kk := hW ad H1 locs1 ls cells slots (q1.set (e := .inr (c', fs.set b v)) g1 g2 okE) q2 (by rw [List.length_set]; exact q3) g3 q5 (by rw [List.length_set]; exact q6) (by rw [List.length_set]; exact z_okT (z_okT q7)) q8 q9
    rw [hn] at kk
    exact kk
  by_cases hfin : (q.2.1 b).2.2.2 = true
  · rw [hfin] at h4
    simp only [Bool.not_true, Bool.false_or, Bool.and_eq_true, decide_eq_true_eq] at h4
    exact va_putF (C := q.1) (T := q.2.1) (N := q.2.2) hx hb hts (z_cls c' q hq).1 ty hty hnd hown hK.2.1 q1.1 q1.2.1 q4 i (z_ws_get he) hq b h1 (hts _ (z_w_in h2)) (fun _ h9 => h9) hfin (by rw [hnm]; exact h4.1) h4.2 hty1 f1 f2 (by rw [List.length_map]; exact hbl) hd fin
  · exact va_put (C := q.1) (T := q.2.1) (N := q.2.2) hx hb hts (z_cls c' q hq).1 ty hty hnd hown hK.2.1 q1.1 q1.2.1 q4 i (z_ws_get he) hq b h1 (hts _ (z_w_in h2)) (fun _ h9 => h9) (by simpa using hfin) hty1 f1 f2 (by rw [List.length_map]; exact hbl) hd fin
