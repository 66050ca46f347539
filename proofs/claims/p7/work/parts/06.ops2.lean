noncomputable def zo_iadd : zNop := fun _ _ _ _ _ k l st h => match st with
  | .int y :: .int x :: st => zn (k + 1) l (.int (x + y) :: st) h
  | _ => none
noncomputable def zk_iadd : zCk := fun _ _ _ _ pc ins len _ nx k => match ins with
  | .iadd => decide (len = 1) && decide (nx (k + 1) = pc + 1)
  | _ => false
theorem zs_iadd : z_Sn zo_iadd zk_iadd := by
  intro p l e R s m args below meth c Z D tc adK adV sb sx M nx ad0 n0 C S d Q a b ci k ins len pl hF hK hA hR hd hck lo st h k' lo' st' h' x y hop kc ks hW
  unfold zo_iadd at hop
  split at hop
  case h_2 => cases hop
  next vy vx st2 =>
  obtain ⟨rfl, rfl, rfl, rfl, rfl, rfl⟩ := zn_inj hop
  obtain ⟨hx, hb, hml, hr, hown, hts, -⟩ := hF
  intro ad H locs ls cells slots q1 q2 q3 q4 q5 q6 q7 q8 q9
  have kk := hW ad H locs ls cells slots q1 q2 q3 q4 q5 q6 (z_okC (z_okV_int _ _) (z_okT (z_okT q7))) q8 q9
  unfold zk_iadd at hck
  split at hck
  all_goals (try simp only [Bool.and_eq_true, decide_eq_true_eq] at hck)
  · obtain ⟨rfl, hn⟩ := hck
    rw [hn] at kk
    exact lv_iadd hx hb hd kk
  · cases hck
noncomputable def zo_isub : zNop := fun _ _ _ _ _ k l st h => match st with
  | .int y :: .int x :: st => zn (k + 1) l (.int (x - y) :: st) h
  | _ => none
noncomputable def zk_isub : zCk := fun _ _ _ _ pc ins len _ nx k => match ins with
  | .isub => decide (len = 1) && decide (nx (k + 1) = pc + 1)
  | _ => false
theorem zs_isub : z_Sn zo_isub zk_isub := by
  intro p l e R s m args below meth c Z D tc adK adV sb sx M nx ad0 n0 C S d Q a b ci k ins len pl hF hK hA hR hd hck lo st h k' lo' st' h' x y hop kc ks hW
  unfold zo_isub at hop
  split at hop
  case h_2 => cases hop
  next vy vx st2 =>
  obtain ⟨rfl, rfl, rfl, rfl, rfl, rfl⟩ := zn_inj hop
  obtain ⟨hx, hb, hml, hr, hown, hts, -⟩ := hF
  intro ad H locs ls cells slots q1 q2 q3 q4 q5 q6 q7 q8 q9
  have kk := hW ad H locs ls cells slots q1 q2 q3 q4 q5 q6 (z_okC (z_okV_int _ _) (z_okT (z_okT q7))) q8 q9
  unfold zk_isub at hck
  split at hck
  all_goals (try simp only [Bool.and_eq_true, decide_eq_true_eq] at hck)
  · obtain ⟨rfl, hn⟩ := hck
    rw [hn] at kk
    exact lv_isub hx hb hd kk
  · cases hck
noncomputable def zo_imul : zNop := fun _ _ _ _ _ k l st h => match st with
  | .int y :: .int x :: st => zn (k + 1) l (.int (x * y) :: st) h
  | _ => none
noncomputable def zk_imul : zCk := fun _ _ _ _ pc ins len _ nx k => match ins with
  | .imul => decide (len = 1) && decide (nx (k + 1) = pc + 1)
  | _ => false
theorem zs_imul : z_Sn zo_imul zk_imul := by
  intro p l e R s m args below meth c Z D tc adK adV sb sx M nx ad0 n0 C S d Q a b ci k ins len pl hF hK hA hR hd hck lo st h k' lo' st' h' x y hop kc ks hW
  unfold zo_imul at hop
  split at hop
  case h_2 => cases hop
  next vy vx st2 =>
  obtain ⟨rfl, rfl, rfl, rfl, rfl, rfl⟩ := zn_inj hop
  obtain ⟨hx, hb, hml, hr, hown, hts, -⟩ := hF
  intro ad H locs ls cells slots q1 q2 q3 q4 q5 q6 q7 q8 q9
  have kk := hW ad H locs ls cells slots q1 q2 q3 q4 q5 q6 (z_okC (z_okV_int _ _) (z_okT (z_okT q7))) q8 q9
  unfold zk_imul at hck
  split at hck
  all_goals (try simp only [Bool.and_eq_true, decide_eq_true_eq] at hck)
  · obtain ⟨rfl, hn⟩ := hck
    rw [hn] at kk
    exact lv_imul hx hb hd kk
  · cases hck
noncomputable def zo_idiv : zNop := fun _ _ _ _ _ k l st h => match st with
  | .int y :: .int x :: st => if y = 0 then none else zn (k + 1) l (.int (x / y) :: st) h
  | _ => none
noncomputable def zk_idiv : zCk := fun _ _ _ _ pc ins len _ nx k => match ins with
  | .idiv => decide (len = 1) && decide (nx (k + 1) = pc + 1)
  | _ => false
theorem zs_idiv : z_Sn zo_idiv zk_idiv := by
  intro p l e R s m args below meth c Z D tc adK adV sb sx M nx ad0 n0 C S d Q a b ci k ins len pl hF hK hA hR hd hck lo st h k' lo' st' h' x y hop kc ks hW
  unfold zo_idiv at hop
  split at hop
  case h_2 => cases hop
  next vy vx st2 =>
  by_cases hne : vy = 0
  · rw [if_pos hne] at hop; cases hop
  rw [if_neg hne] at hop
  obtain ⟨rfl, rfl, rfl, rfl, rfl, rfl⟩ := zn_inj hop
  obtain ⟨hx, hb, hml, hr, hown, hts, -⟩ := hF
  intro ad H locs ls cells slots q1 q2 q3 q4 q5 q6 q7 q8 q9
  have kk := hW ad H locs ls cells slots q1 q2 q3 q4 q5 q6 (z_okC (z_okV_int _ _) (z_okT (z_okT q7))) q8 q9
  unfold zk_idiv at hck
  split at hck
  all_goals (try simp only [Bool.and_eq_true, decide_eq_true_eq] at hck)
  · obtain ⟨rfl, hn⟩ := hck
    rw [hn] at kk
    exact lv_idiv hx hb hd hne kk
  · cases hck
noncomputable def zo_irem : zNop := fun _ _ _ _ _ k l st h => match st with
  | .int y :: .int x :: st => if y = 0 then none else zn (k + 1) l (.int (x - x / y * y) :: st) h
  | _ => none
noncomputable def zk_irem : zCk := fun _ _ _ _ pc ins len _ nx k => match ins with
  | .irem => decide (len = 1) && decide (nx (k + 1) = pc + 1)
  | _ => false
theorem zs_irem : z_Sn zo_irem zk_irem := by
  intro p l e R s m args below meth c Z D tc adK adV sb sx M nx ad0 n0 C S d Q a b ci k ins len pl hF hK hA hR hd hck lo st h k' lo' st' h' x y hop kc ks hW
  unfold zo_irem at hop
  split at hop
  case h_2 => cases hop
  next vy vx st2 =>
  by_cases hne : vy = 0
  · rw [if_pos hne] at hop; cases hop
  rw [if_neg hne] at hop
  obtain ⟨rfl, rfl, rfl, rfl, rfl, rfl⟩ := zn_inj hop
  obtain ⟨hx, hb, hml, hr, hown, hts, -⟩ := hF
  intro ad H locs ls cells slots q1 q2 q3 q4 q5 q6 q7 q8 q9
  have kk := hW ad H locs ls cells slots q1 q2 q3 q4 q5 q6 (z_okC (z_okV_int _ _) (z_okT (z_okT q7))) q8 q9
  unfold zk_irem at hck
  split at hck
  all_goals (try simp only [Bool.and_eq_true, decide_eq_true_eq] at hck)
  · obtain ⟨rfl, hn⟩ := hck
    rw [hn] at kk
    exact lv_irem hx hb hd hne kk
  · cases hck
noncomputable def zo_ishl : zNop := fun _ _ _ _ _ k l st h => match st with
  | .int y :: .int x :: st => zn (k + 1) l (.int (x <<< (y &&& 31)) :: st) h
  | _ => none
noncomputable def zk_ishl : zCk := fun _ _ _ _ pc ins len _ nx k => match ins with
  | .ishl => decide (len = 1) && decide (nx (k + 1) = pc + 1)
  | _ => false
theorem zs_ishl : z_Sn zo_ishl zk_ishl := by
  intro p l e R s m args below meth c Z D tc adK adV sb sx M nx ad0 n0 C S d Q a b ci k ins len pl hF hK hA hR hd hck lo st h k' lo' st' h' x y hop kc ks hW
  unfold zo_ishl at hop
  split at hop
  case h_2 => cases hop
  next vy vx st2 =>
  obtain ⟨rfl, rfl, rfl, rfl, rfl, rfl⟩ := zn_inj hop
  obtain ⟨hx, hb, hml, hr, hown, hts, -⟩ := hF
  intro ad H locs ls cells slots q1 q2 q3 q4 q5 q6 q7 q8 q9
  have kk := hW ad H locs ls cells slots q1 q2 q3 q4 q5 q6 (z_okC (z_okV_int _ _) (z_okT (z_okT q7))) q8 q9
  unfold zk_ishl at hck
  split at hck
  all_goals (try simp only [Bool.and_eq_true, decide_eq_true_eq] at hck)
  · obtain ⟨rfl, hn⟩ := hck
    rw [hn] at kk
    exact lv_ishl hx hb hd kk
  · cases hck
noncomputable def zo_ishr : zNop := fun _ _ _ _ _ k l st h => match st with
  | .int y :: .int x :: st => zn (k + 1) l (.int (x >>> (y &&& 31)) :: st) h
  | _ => none
noncomputable def zk_ishr : zCk := fun _ _ _ _ pc ins len _ nx k => match ins with
  | .ishr => decide (len = 1) && decide (nx (k + 1) = pc + 1)
  | _ => false
theorem zs_ishr : z_Sn zo_ishr zk_ishr := by
  intro p l e R s m args below meth c Z D tc adK adV sb sx M nx ad0 n0 C S d Q a b ci k ins len pl hF hK hA hR hd hck lo st h k' lo' st' h' x y hop kc ks hW
  unfold zo_ishr at hop
  split at hop
  case h_2 => cases hop
  next vy vx st2 =>
  obtain ⟨rfl, rfl, rfl, rfl, rfl, rfl⟩ := zn_inj hop
  obtain ⟨hx, hb, hml, hr, hown, hts, -⟩ := hF
  intro ad H locs ls cells slots q1 q2 q3 q4 q5 q6 q7 q8 q9
  have kk := hW ad H locs ls cells slots q1 q2 q3 q4 q5 q6 (z_okC (z_okV_int _ _) (z_okT (z_okT q7))) q8 q9
  unfold zk_ishr at hck
  split at hck
  all_goals (try simp only [Bool.and_eq_true, decide_eq_true_eq] at hck)
  · obtain ⟨rfl, hn⟩ := hck
    rw [hn] at kk
    exact lv_ishr hx hb hd kk
  · cases hck
noncomputable def zo_iushr : zNop := fun _ _ _ _ _ k l st h => match st with
  | .int y :: .int x :: st => zn (k + 1) l (.int ((x.toUInt32 >>> (y.toUInt32 &&& Int32.toUInt32 31)).toInt32) :: st) h
  | _ => none
noncomputable def zk_iushr : zCk := fun _ _ _ _ pc ins len _ nx k => match ins with
  | .iushr => decide (len = 1) && decide (nx (k + 1) = pc + 1)
  | _ => false
theorem zs_iushr : z_Sn zo_iushr zk_iushr := by
  intro p l e R s m args below meth c Z D tc adK adV sb sx M nx ad0 n0 C S d Q a b ci k ins len pl hF hK hA hR hd hck lo st h k' lo' st' h' x y hop kc ks hW
  unfold zo_iushr at hop
  split at hop
  case h_2 => cases hop
  next vy vx st2 =>
  obtain ⟨rfl, rfl, rfl, rfl, rfl, rfl⟩ := zn_inj hop
  obtain ⟨hx, hb, hml, hr, hown, hts, -⟩ := hF
  intro ad H locs ls cells slots q1 q2 q3 q4 q5 q6 q7 q8 q9
  have kk := hW ad H locs ls cells slots q1 q2 q3 q4 q5 q6 (z_okC (z_okV_int _ _) (z_okT (z_okT q7))) q8 q9
  unfold zk_iushr at hck
  split at hck
  all_goals (try simp only [Bool.and_eq_true, decide_eq_true_eq] at hck)
  · obtain ⟨rfl, hn⟩ := hck
    rw [hn] at kk
    exact lv_iushr hx hb hd rfl kk
  · cases hck
noncomputable def zo_iand : zNop := fun _ _ _ _ _ k l st h => match st with
  | .int y :: .int x :: st => zn (k + 1) l (.int (x &&& y) :: st) h
  | _ => none
noncomputable def zk_iand : zCk := fun _ _ _ _ pc ins len _ nx k => match ins with
  | .iand => decide (len = 1) && decide (nx (k + 1) = pc + 1)
  | _ => false
theorem zs_iand : z_Sn zo_iand zk_iand := by
  intro p l e R s m args below meth c Z D tc adK adV sb sx M nx ad0 n0 C S d Q a b ci k ins len pl hF hK hA hR hd hck lo st h k' lo' st' h' x y hop kc ks hW
  unfold zo_iand at hop
  split at hop
  case h_2 => cases hop
  next vy vx st2 =>
  obtain ⟨rfl, rfl, rfl, rfl, rfl, rfl⟩ := zn_inj hop
  obtain ⟨hx, hb, hml, hr, hown, hts, -⟩ := hF
  intro ad H locs ls cells slots q1 q2 q3 q4 q5 q6 q7 q8 q9
  have kk := hW ad H locs ls cells slots q1 q2 q3 q4 q5 q6 (z_okC (z_okV_int _ _) (z_okT (z_okT q7))) q8 q9
  unfold zk_iand at hck
  split at hck
  all_goals (try simp only [Bool.and_eq_true, decide_eq_true_eq] at hck)
  · obtain ⟨rfl, hn⟩ := hck
    rw [hn] at kk
    exact lv_iand hx hb hd kk
  · cases hck
noncomputable def zo_ior : zNop := fun _ _ _ _ _ k l st h => match st with
  | .int y :: .int x :: st => zn (k + 1) l (.int (x ||| y) :: st) h
  | _ => none
noncomputable def zk_ior : zCk := fun _ _ _ _ pc ins len _ nx k => match ins with
  | .ior => decide (len = 1) && decide (nx (k + 1) = pc + 1)
  | _ => false
theorem zs_ior : z_Sn zo_ior zk_ior := by
  intro p l e R s m args below meth c Z D tc adK adV sb sx M nx ad0 n0 C S d Q a b ci k ins len pl hF hK hA hR hd hck lo st h k' lo' st' h' x y hop kc ks hW
  unfold zo_ior at hop
  split at hop
  case h_2 => cases hop
  next vy vx st2 =>
  obtain ⟨rfl, rfl, rfl, rfl, rfl, rfl⟩ := zn_inj hop
  obtain ⟨hx, hb, hml, hr, hown, hts, -⟩ := hF
  intro ad H locs ls cells slots q1 q2 q3 q4 q5 q6 q7 q8 q9
  have kk := hW ad H locs ls cells slots q1 q2 q3 q4 q5 q6 (z_okC (z_okV_int _ _) (z_okT (z_okT q7))) q8 q9
  unfold zk_ior at hck
  split at hck
  all_goals (try simp only [Bool.and_eq_true, decide_eq_true_eq] at hck)
  · obtain ⟨rfl, hn⟩ := hck
    rw [hn] at kk
    exact lv_ior hx hb hd kk
  · cases hck
noncomputable def zo_ixor : zNop := fun _ _ _ _ _ k l st h => match st with
  | .int y :: .int x :: st => zn (k + 1) l (.int (x ^^^ y) :: st) h
  | _ => none
noncomputable def zk_ixor : zCk := fun _ _ _ _ pc ins len _ nx k => match ins with
  | .ixor => decide (len = 1) && decide (nx (k + 1) = pc + 1)
  | _ => false
theorem zs_ixor : z_Sn zo_ixor zk_ixor := by
  intro p l e R s m args below meth c Z D tc adK adV sb sx M nx ad0 n0 C S d Q a b ci k ins len pl hF hK hA hR hd hck lo st h k' lo' st' h' x y hop kc ks hW
  unfold zo_ixor at hop
  split at hop
  case h_2 => cases hop
  next vy vx st2 =>
  obtain ⟨rfl, rfl, rfl, rfl, rfl, rfl⟩ := zn_inj hop
  obtain ⟨hx, hb, hml, hr, hown, hts, -⟩ := hF
  intro ad H locs ls cells slots q1 q2 q3 q4 q5 q6 q7 q8 q9
  have kk := hW ad H locs ls cells slots q1 q2 q3 q4 q5 q6 (z_okC (z_okV_int _ _) (z_okT (z_okT q7))) q8 q9
  unfold zk_ixor at hck
  split at hck
  all_goals (try simp only [Bool.and_eq_true, decide_eq_true_eq] at hck)
  · obtain ⟨rfl, hn⟩ := hck
    rw [hn] at kk
    exact lv_ixor hx hb hd kk
  · cases hck
noncomputable def zo_ladd : zNop := fun _ _ _ _ _ k l st h => match st with
  | .long y :: .long x :: st => zn (k + 1) l (.long (x + y) :: st) h
  | _ => none
noncomputable def zk_ladd : zCk := fun _ _ _ _ pc ins len _ nx k => match ins with
  | .ladd => decide (len = 1) && decide (nx (k + 1) = pc + 1)
  | _ => false
theorem zs_ladd : z_Sn zo_ladd zk_ladd := by
  intro p l e R s m args below meth c Z D tc adK adV sb sx M nx ad0 n0 C S d Q a b ci k ins len pl hF hK hA hR hd hck lo st h k' lo' st' h' x y hop kc ks hW
  unfold zo_ladd at hop
  split at hop
  case h_2 => cases hop
  next vy vx st2 =>
  obtain ⟨rfl, rfl, rfl, rfl, rfl, rfl⟩ := zn_inj hop
  obtain ⟨hx, hb, hml, hr, hown, hts, -⟩ := hF
  intro ad H locs ls cells slots q1 q2 q3 q4 q5 q6 q7 q8 q9
  have kk := hW ad H locs ls cells slots q1 q2 q3 q4 q5 q6 (z_okC (z_okV_long _ _) (z_okT (z_okT q7))) q8 q9
  unfold zk_ladd at hck
  split at hck
  all_goals (try simp only [Bool.and_eq_true, decide_eq_true_eq] at hck)
  · obtain ⟨rfl, hn⟩ := hck
    rw [hn] at kk
    exact lv_ladd hx hb hd kk
  · cases hck
noncomputable def zo_lmul : zNop := fun _ _ _ _ _ k l st h => match st with
  | .long y :: .long x :: st => zn (k + 1) l (.long (x * y) :: st) h
  | _ => none
noncomputable def zk_lmul : zCk := fun _ _ _ _ pc ins len _ nx k => match ins with
  | .lmul => decide (len = 1) && decide (nx (k + 1) = pc + 1)
  | _ => false
theorem zs_lmul : z_Sn zo_lmul zk_lmul := by
  intro p l e R s m args below meth c Z D tc adK adV sb sx M nx ad0 n0 C S d Q a b ci k ins len pl hF hK hA hR hd hck lo st h k' lo' st' h' x y hop kc ks hW
  unfold zo_lmul at hop
  split at hop
  case h_2 => cases hop
  next vy vx st2 =>
  obtain ⟨rfl, rfl, rfl, rfl, rfl, rfl⟩ := zn_inj hop
  obtain ⟨hx, hb, hml, hr, hown, hts, -⟩ := hF
  intro ad H locs ls cells slots q1 q2 q3 q4 q5 q6 q7 q8 q9
  have kk := hW ad H locs ls cells slots q1 q2 q3 q4 q5 q6 (z_okC (z_okV_long _ _) (z_okT (z_okT q7))) q8 q9
  unfold zk_lmul at hck
  split at hck
  all_goals (try simp only [Bool.and_eq_true, decide_eq_true_eq] at hck)
  · obtain ⟨rfl, hn⟩ := hck
    rw [hn] at kk
    exact lv_lmul hx hb hd kk
  · cases hck
noncomputable def zo_ldiv : zNop := fun _ _ _ _ _ k l st h => match st with
  | .long y :: .long x :: st => if y = 0 then none else zn (k + 1) l (.long (x / y) :: st) h
  | _ => none
noncomputable def zk_ldiv : zCk := fun _ _ _ _ pc ins len _ nx k => match ins with
  | .ldiv => decide (len = 1) && decide (nx (k + 1) = pc + 1)
  | _ => false
theorem zs_ldiv : z_Sn zo_ldiv zk_ldiv := by
  intro p l e R s m args below meth c Z D tc adK adV sb sx M nx ad0 n0 C S d Q a b ci k ins len pl hF hK hA hR hd hck lo st h k' lo' st' h' x y hop kc ks hW
  unfold zo_ldiv at hop
  split at hop
  case h_2 => cases hop
  next vy vx st2 =>
  by_cases hne : vy = 0
  · rw [if_pos hne] at hop; cases hop
  rw [if_neg hne] at hop
  obtain ⟨rfl, rfl, rfl, rfl, rfl, rfl⟩ := zn_inj hop
  obtain ⟨hx, hb, hml, hr, hown, hts, -⟩ := hF
  intro ad H locs ls cells slots q1 q2 q3 q4 q5 q6 q7 q8 q9
  have kk := hW ad H locs ls cells slots q1 q2 q3 q4 q5 q6 (z_okC (z_okV_long _ _) (z_okT (z_okT q7))) q8 q9
  unfold zk_ldiv at hck
  split at hck
  all_goals (try simp only [Bool.and_eq_true, decide_eq_true_eq] at hck)
  · obtain ⟨rfl, hn⟩ := hck
    rw [hn] at kk
    exact lv_ldiv hx hb hd hne kk
  · cases hck
noncomputable def zo_lcmp : zNop := fun _ _ _ _ _ k l st h => match st with
  | .long y :: .long x :: st => zn (k + 1) l (.int (lg_cmp x y) :: st) h
  | _ => none
noncomputable def zk_lcmp : zCk := fun _ _ _ _ pc ins len _ nx k => match ins with
  | .lcmp => decide (len = 1) && decide (nx (k + 1) = pc + 1)
  | _ => false
theorem zs_lcmp : z_Sn zo_lcmp zk_lcmp := by
  intro p l e R s m args below meth c Z D tc adK adV sb sx M nx ad0 n0 C S d Q a b ci k ins len pl hF hK hA hR hd hck lo st h k' lo' st' h' x y hop kc ks hW
  unfold zo_lcmp at hop
  split at hop
  case h_2 => cases hop
  next vy vx st2 =>
  obtain ⟨rfl, rfl, rfl, rfl, rfl, rfl⟩ := zn_inj hop
  obtain ⟨hx, hb, hml, hr, hown, hts, -⟩ := hF
  intro ad H locs ls cells slots q1 q2 q3 q4 q5 q6 q7 q8 q9
  have kk := hW ad H locs ls cells slots q1 q2 q3 q4 q5 q6 (z_okC (z_okV_int _ _) (z_okT (z_okT q7))) q8 q9
  unfold zk_lcmp at hck
  split at hck
  all_goals (try simp only [Bool.and_eq_true, decide_eq_true_eq] at hck)
  · obtain ⟨rfl, hn⟩ := hck
    rw [hn] at kk
    exact W.lcmp hx hb hd kk
  · cases hck
noncomputable def zo_i2l : zNop := fun _ _ _ _ _ k l st h => match st with
  | .int x :: st => zn (k + 1) l (.long (x.toInt64) :: st) h
  | _ => none
noncomputable def zk_i2l : zCk := fun _ _ _ _ pc ins len _ nx k => match ins with
  | .i2l => decide (len = 1) && decide (nx (k + 1) = pc + 1)
  | _ => false
theorem zs_i2l : z_Sn zo_i2l zk_i2l := by
  intro p l e R s m args below meth c Z D tc adK adV sb sx M nx ad0 n0 C S d Q a b ci k ins len pl hF hK hA hR hd hck lo st h k' lo' st' h' x y hop kc ks hW
  unfold zo_i2l at hop
  split at hop
  case h_2 => cases hop
  next vx st2 =>
  obtain ⟨rfl, rfl, rfl, rfl, rfl, rfl⟩ := zn_inj hop
  obtain ⟨hx, hb, hml, hr, hown, hts, -⟩ := hF
  intro ad H locs ls cells slots q1 q2 q3 q4 q5 q6 q7 q8 q9
  have kk := hW ad H locs ls cells slots q1 q2 q3 q4 q5 q6 (z_okC (z_okV_long _ _) (z_okT q7)) q8 q9
  unfold zk_i2l at hck
  split at hck
  all_goals (try simp only [Bool.and_eq_true, decide_eq_true_eq] at hck)
  · obtain ⟨rfl, hn⟩ := hck
    rw [hn] at kk
    exact lv_i2l hx hb hd rfl kk
  · cases hck
noncomputable def zo_l2i : zNop := fun _ _ _ _ _ k l st h => match st with
  | .long x :: st => zn (k + 1) l (.int (x.toInt32) :: st) h
  | _ => none
noncomputable def zk_l2i : zCk := fun _ _ _ _ pc ins len _ nx k => match ins with
  | .l2i => decide (len = 1) && decide (nx (k + 1) = pc + 1)
  | _ => false
theorem zs_l2i : z_Sn zo_l2i zk_l2i := by
  intro p l e R s m args below meth c Z D tc adK adV sb sx M nx ad0 n0 C S d Q a b ci k ins len pl hF hK hA hR hd hck lo st h k' lo' st' h' x y hop kc ks hW
  unfold zo_l2i at hop
  split at hop
  case h_2 => cases hop
  next vx st2 =>
  obtain ⟨rfl, rfl, rfl, rfl, rfl, rfl⟩ := zn_inj hop
  obtain ⟨hx, hb, hml, hr, hown, hts, -⟩ := hF
  intro ad H locs ls cells slots q1 q2 q3 q4 q5 q6 q7 q8 q9
  have kk := hW ad H locs ls cells slots q1 q2 q3 q4 q5 q6 (z_okC (z_okV_int _ _) (z_okT q7)) q8 q9
  unfold zk_l2i at hck
  split at hck
  all_goals (try simp only [Bool.and_eq_true, decide_eq_true_eq] at hck)
  · obtain ⟨rfl, hn⟩ := hck
    rw [hn] at kk
    exact lv_l2i hx hb hd rfl kk
  · cases hck
noncomputable def zo_i2b : zNop := fun _ _ _ _ _ k l st h => match st with
  | .int x :: st => zn (k + 1) l (.int (x.toInt8.toInt32) :: st) h
  | _ => none
noncomputable def zk_i2b : zCk := fun _ _ _ _ pc ins len _ nx k => match ins with
  | .i2b => decide (len = 1) && decide (nx (k + 1) = pc + 1)
  | _ => false
theorem zs_i2b : z_Sn zo_i2b zk_i2b := by
  intro p l e R s m args below meth c Z D tc adK adV sb sx M nx ad0 n0 C S d Q a b ci k ins len pl hF hK hA hR hd hck lo st h k' lo' st' h' x y hop kc ks hW
  unfold zo_i2b at hop
  split at hop
  case h_2 => cases hop
  next vx st2 =>
  obtain ⟨rfl, rfl, rfl, rfl, rfl, rfl⟩ := zn_inj hop
  obtain ⟨hx, hb, hml, hr, hown, hts, -⟩ := hF
  intro ad H locs ls cells slots q1 q2 q3 q4 q5 q6 q7 q8 q9
  have kk := hW ad H locs ls cells slots q1 q2 q3 q4 q5 q6 (z_okC (z_okV_int _ _) (z_okT q7)) q8 q9
  unfold zk_i2b at hck
  split at hck
  all_goals (try simp only [Bool.and_eq_true, decide_eq_true_eq] at hck)
  · obtain ⟨rfl, hn⟩ := hck
    rw [hn] at kk
    exact lv_i2b hx hb hd rfl kk
  · cases hck
noncomputable def zo_lconst : zNop := fun _ _ _ _ c k l st h => zn (k + 1) l (.long (Int64.ofInt c) :: st) h
noncomputable def zk_lconst : zCk := fun M _ _ c pc ins len pl nx k => match ins with
  | .lconst n => decide (Int64.ofNat (n : Nat) = Int64.ofInt c) && decide (len = 1) && decide (nx (k + 1) = pc + 1)
  | .ldc2_w i => z_w (.constantLong M.1 i (Int64.ofInt c)) (pl.getD 0 0) && decide (len = 3) && decide (nx (k + 1) = pc + 3)
  | _ => false
theorem zs_lconst : z_Sn zo_lconst zk_lconst := by
  intro p l e R s m args below meth c Z D tc adK adV sb sx M nx ad0 n0 C S d Q a b ci k ins len pl hF hK hA hR hd hck lo st h k' lo' st' h' x y hop kc ks hW
  obtain ⟨rfl, rfl, rfl, rfl, rfl, rfl⟩ := zn_inj hop
  obtain ⟨hx, hb, hml, hr, hown, hts, -⟩ := hF
  intro ad H locs ls cells slots q1 q2 q3 q4 q5 q6 q7 q8 q9
  have kk := hW ad H locs ls cells slots q1 q2 q3 q4 q5 q6 (z_okC (z_okV_long _ _) q7) q8 q9
  unfold zk_lconst at hck
  split at hck
  all_goals (try simp only [Bool.and_eq_true, decide_eq_true_eq] at hck)
  · obtain ⟨⟨h1, rfl⟩, hn⟩ := hck
    rw [hn] at kk
    exact lv_lconst hx hb hd h1 kk
  · obtain ⟨⟨h1, rfl⟩, hn⟩ := hck
    rw [hn] at kk
    exact lv_ldc2 hx hb hown (hts _ (z_w_in h1)) hd kk
  · cases hck
noncomputable def zo_dup : zNop := fun _ _ _ _ _ k l st h => match st with
  | v :: st => if v.category = 1 then zn (k + 1) l (v :: v :: st) h else none
  | _ => none
noncomputable def zk_dup : zCk := fun _ _ _ _ pc ins len _ nx k => match ins with
  | .dup => decide (len = 1) && decide (nx (k + 1) = pc + 1)
  | _ => false
theorem zs_dup : z_Sn zo_dup zk_dup := by
  intro p l e R s m args below meth c Z D tc adK adV sb sx M nx ad0 n0 C S d Q a b ci k ins len pl hF hK hA hR hd hck lo st h k' lo' st' h' x y hop kc ks hW
  unfold zo_dup at hop
  split at hop
  case h_2 => cases hop
  next v st2 =>
  by_cases hc : v.category = 1
  case neg => rw [if_neg hc] at hop; cases hop
  rw [if_pos hc] at hop
  obtain ⟨rfl, rfl, rfl, rfl, rfl, rfl⟩ := zn_inj hop
  obtain ⟨hx, hb, hml, hr, hown, hts, -⟩ := hF
  intro ad H locs ls cells slots q1 q2 q3 q4 q5 q6 q7 q8 q9
  have kk := hW ad H locs ls cells slots q1 q2 q3 q4 q5 q6 (z_okC (z_ok1 q7) q7) q8 q9
  unfold zk_dup at hck
  split at hck
  all_goals (try simp only [Bool.and_eq_true, decide_eq_true_eq] at hck)
  · obtain ⟨rfl, hn⟩ := hck
    rw [hn] at kk
    exact lv_dup hx hb hd (by rw [z_tr_cat]; exact hc) kk
  · cases hck
noncomputable def zo_dup2 : zNop := fun _ _ _ _ _ k l st h => match st with
  | v :: w :: st => if v.category = 1 ∧ w.category = 1 then zn (k + 1) l (v :: w :: v :: w :: st) h else none
  | _ => none
noncomputable def zk_dup2 : zCk := fun _ _ _ _ pc ins len _ nx k => match ins with
  | .dup2 => decide (len = 1) && decide (nx (k + 1) = pc + 1)
  | _ => false
theorem zs_dup2 : z_Sn zo_dup2 zk_dup2 := by
  intro p l e R s m args below meth c Z D tc adK adV sb sx M nx ad0 n0 C S d Q a b ci k ins len pl hF hK hA hR hd hck lo st h k' lo' st' h' x y hop kc ks hW
  unfold zo_dup2 at hop
  split at hop
  case h_2 => cases hop
  next v w st2 =>
  by_cases hc : v.category = 1 ∧ w.category = 1
  case neg => rw [if_neg hc] at hop; cases hop
  rw [if_pos hc] at hop
  obtain ⟨rfl, rfl, rfl, rfl, rfl, rfl⟩ := zn_inj hop
  obtain ⟨hx, hb, hml, hr, hown, hts, -⟩ := hF
  intro ad H locs ls cells slots q1 q2 q3 q4 q5 q6 q7 q8 q9
  have kk := hW ad H locs ls cells slots q1 q2 q3 q4 q5 q6 (z_okC (z_ok1 q7) (z_okC (z_ok1 (z_okT q7)) q7)) q8 q9
  unfold zk_dup2 at hck
  split at hck
  all_goals (try simp only [Bool.and_eq_true, decide_eq_true_eq] at hck)
  · obtain ⟨rfl, hn⟩ := hck
    rw [hn] at kk
    exact lv_dup2_11 hx hb hd (by rw [z_tr_cat]; exact hc.1) (by rw [z_tr_cat]; exact hc.2) kk
  · cases hck
noncomputable def zo_pop : zNop := fun _ _ _ _ _ k l st h => match st with
  | v :: st => if v.category = 1 then zn (k + 1) l st h else none
  | _ => none
noncomputable def zk_pop : zCk := fun _ _ _ _ pc ins len _ nx k => match ins with
  | .pop => decide (len = 1) && decide (nx (k + 1) = pc + 1)
  | _ => false
theorem zs_pop : z_Sn zo_pop zk_pop := by
  intro p l e R s m args below meth c Z D tc adK adV sb sx M nx ad0 n0 C S d Q a b ci k ins len pl hF hK hA hR hd hck lo st h k' lo' st' h' x y hop kc ks hW
  unfold zo_pop at hop
  split at hop
  case h_2 => cases hop
  next v st2 =>
  by_cases hc : v.category = 1
  case neg => rw [if_neg hc] at hop; cases hop
  rw [if_pos hc] at hop
  obtain ⟨rfl, rfl, rfl, rfl, rfl, rfl⟩ := zn_inj hop
  obtain ⟨hx, hb, hml, hr, hown, hts, -⟩ := hF
  intro ad H locs ls cells slots q1 q2 q3 q4 q5 q6 q7 q8 q9
  have kk := hW ad H locs ls cells slots q1 q2 q3 q4 q5 q6 (z_okT q7) q8 q9
  unfold zk_pop at hck
  split at hck
  all_goals (try simp only [Bool.and_eq_true, decide_eq_true_eq] at hck)
  · obtain ⟨rfl, hn⟩ := hck
    rw [hn] at kk
    exact lv_pop hx hb hd (by rw [z_tr_cat]; exact hc) kk
  · cases hck
noncomputable def zo_null : zNop := fun _ _ _ _ _ k l st h => zn (k + 1) l (.null :: st) h
noncomputable def zk_null : zCk := fun _ _ _ _ pc ins len _ nx k => match ins with
  | .aconst_null => decide (len = 1) && decide (nx (k + 1) = pc + 1)
  | _ => false
theorem zs_null : z_Sn zo_null zk_null := by
  intro p l e R s m args below meth c Z D tc adK adV sb sx M nx ad0 n0 C S d Q a b ci k ins len pl hF hK hA hR hd hck lo st h k' lo' st' h' x y hop kc ks hW
  obtain ⟨rfl, rfl, rfl, rfl, rfl, rfl⟩ := zn_inj hop
  obtain ⟨hx, hb, hml, hr, hown, hts, -⟩ := hF
  intro ad H locs ls cells slots q1 q2 q3 q4 q5 q6 q7 q8 q9
  have kk := hW ad H locs ls cells slots q1 q2 q3 q4 q5 q6 (z_okC (z_okV_null _) q7) q8 q9
  unfold zk_null at hck
  split at hck
  all_goals (try simp only [Bool.and_eq_true, decide_eq_true_eq] at hck)
  · obtain ⟨rfl, hn⟩ := hck
    rw [hn] at kk
    exact lv_null hx hb hd kk
  · cases hck
noncomputable def zo_goto : zNop := fun _ _ a _ _ _ l st h => zn a l st h
noncomputable def zk_goto : zCk := fun _ a _ _ pc ins len _ nx _ => match ins with
  | .goto off => decide ((pc : Int) + off = (nx a : Int)) && decide (len = 3)
  | _ => false
theorem zs_goto : z_Sn zo_goto zk_goto := by
  intro p l e R s m args below meth c Z D tc adK adV sb sx M nx ad0 n0 C S d Q a b ci k ins len pl hF hK hA hR hd hck lo st h k' lo' st' h' x y hop kc ks hW
  obtain ⟨rfl, rfl, rfl, rfl, rfl, rfl⟩ := zn_inj hop
  obtain ⟨hx, hb, hml, hr, hown, hts, -⟩ := hF
  intro ad H locs ls cells slots q1 q2 q3 q4 q5 q6 q7 q8 q9
  have kk := hW ad H locs ls cells slots q1 q2 q3 q4 q5 q6 q7 q8 q9
  unfold zk_goto at hck
  split at hck
  all_goals (try simp only [Bool.and_eq_true, decide_eq_true_eq] at hck)
  · obtain ⟨h1, rfl⟩ := hck
    exact lv_goto hx hb hd h1 kk
  · cases hck
/-- which way a comparison goes: 0 eq, 1 ne, 2 lt, 3 ge, 4 gt, 5 le -/
noncomputable def z_cmp (b : Nat) (x y : Int32) : Bool := match b with
  | 0 => decide (x = y)
  | 1 => !decide (x = y)
  | 2 => decide (x < y)
  | 3 => !decide (x < y)
  | 4 => decide (y < x)
  | _ => !decide (y < x)
noncomputable def zo_if : zNop := fun _ _ a b _ k l st h => match st with
  | .int x :: st => zn (if z_cmp b x 0 then a else k + 1) l st h
  | _ => none
noncomputable def zo_icmp : zNop := fun _ _ a b _ k l st h => match st with
  | .int y :: .int x :: st => zn (if z_cmp b x y then a else k + 1) l st h
  | _ => none
noncomputable def zk_if : zCk := fun _ a b _ pc ins len _ nx k => match ins with
  | .ifCond .eq off => decide (b = 0) && decide ((pc : Int) + off = (nx a : Int)) && decide (len = 3) && decide (nx (k + 1) = pc + 3)
  | .ifCond .ne off => decide (b = 1) && decide ((pc : Int) + off = (nx a : Int)) && decide (len = 3) && decide (nx (k + 1) = pc + 3)
  | .ifCond .lt off => decide (b = 2) && decide ((pc : Int) + off = (nx a : Int)) && decide (len = 3) && decide (nx (k + 1) = pc + 3)
  | .ifCond .ge off => decide (b = 3) && decide ((pc : Int) + off = (nx a : Int)) && decide (len = 3) && decide (nx (k + 1) = pc + 3)
  | .ifCond .gt off => decide (b = 4) && decide ((pc : Int) + off = (nx a : Int)) && decide (len = 3) && decide (nx (k + 1) = pc + 3)
  | .ifCond .le off => decide (b = 5) && decide ((pc : Int) + off = (nx a : Int)) && decide (len = 3) && decide (nx (k + 1) = pc + 3)
  | _ => false
noncomputable def zk_icmp : zCk := fun _ a b _ pc ins len _ nx k => match ins with
  | .if_icmp .eq off => decide (b = 0) && decide ((pc : Int) + off = (nx a : Int)) && decide (len = 3) && decide (nx (k + 1) = pc + 3)
  | .if_icmp .ne off => decide (b = 1) && decide ((pc : Int) + off = (nx a : Int)) && decide (len = 3) && decide (nx (k + 1) = pc + 3)
  | .if_icmp .lt off => decide (b = 2) && decide ((pc : Int) + off = (nx a : Int)) && decide (len = 3) && decide (nx (k + 1) = pc + 3)
  | .if_icmp .ge off => decide (b = 3) && decide ((pc : Int) + off = (nx a : Int)) && decide (len = 3) && decide (nx (k + 1) = pc + 3)
  | .if_icmp .gt off => decide (b = 4) && decide ((pc : Int) + off = (nx a : Int)) && decide (len = 3) && decide (nx (k + 1) = pc + 3)
  | .if_icmp .le off => decide (b = 5) && decide ((pc : Int) + off = (nx a : Int)) && decide (len = 3) && decide (nx (k + 1) = pc + 3)
  | _ => false
theorem zs_if : z_Sn zo_if zk_if := by
  intro p l e R s m args below meth c Z D tc adK adV sb sx M nx ad0 n0 C S d Q a b ci k ins len pl hF hK hA hR hd hck lo st h k' lo' st' h' x y hop kc ks hW
  unfold zo_if at hop
  split at hop
  case h_2 => cases hop
  next vx st2 =>
  obtain ⟨rfl, rfl, rfl, rfl, rfl, rfl⟩ := zn_inj hop
  obtain ⟨hx, hb, hml, hr, hown, hts, -⟩ := hF
  intro ad H locs ls cells slots q1 q2 q3 q4 q5 q6 q7 q8 q9
  have kk := hW ad H locs ls cells slots q1 q2 q3 q4 q5 q6 (z_okT q7) q8 q9
  unfold zk_if at hck
  split at hck
  all_goals (try simp only [Bool.and_eq_true, decide_eq_true_eq] at hck)
  · obtain ⟨⟨⟨rfl, h1⟩, rfl⟩, hn⟩ := hck
    refine lv_if_eq hx hb hd h1 (fun q => ?_) (fun q => ?_)
    · rw [if_pos (by first | (simp [z_cmp]; done) | (simp [z_cmp, q]; done) | (simpa [z_cmp] using q))] at kk; exact kk
    · rw [if_neg (by first | (simp [z_cmp, q]; done) | (simpa [z_cmp] using q)), hn] at kk; exact kk
  · obtain ⟨⟨⟨rfl, h1⟩, rfl⟩, hn⟩ := hck
    refine lv_if_ne hx hb hd h1 (fun q => ?_) (fun q => ?_)
    · rw [if_pos (by first | (simp [z_cmp]; done) | (simp [z_cmp, q]; done) | (simpa [z_cmp] using q))] at kk; exact kk
    · rw [if_neg (by first | (simp [z_cmp, q]; done) | (simpa [z_cmp] using q)), hn] at kk; exact kk
  · obtain ⟨⟨⟨rfl, h1⟩, rfl⟩, hn⟩ := hck
    refine lv_if_lt hx hb hd h1 (fun q => ?_) (fun q => ?_)
    · rw [if_pos (by first | (simp [z_cmp]; done) | (simp [z_cmp, q]; done) | (simpa [z_cmp] using q))] at kk; exact kk
    · rw [if_neg (by first | (simp [z_cmp, q]; done) | (simpa [z_cmp] using q)), hn] at kk; exact kk
  · obtain ⟨⟨⟨rfl, h1⟩, rfl⟩, hn⟩ := hck
    refine lv_if_ge hx hb hd h1 (fun q => ?_) (fun q => ?_)
    · rw [if_pos (by first | (simp [z_cmp]; done) | (simp [z_cmp, q]; done) | (simpa [z_cmp] using q))] at kk; exact kk
    · rw [if_neg (by first | (simp [z_cmp, q]; done) | (simpa [z_cmp] using q)), hn] at kk; exact kk
  · obtain ⟨⟨⟨rfl, h1⟩, rfl⟩, hn⟩ := hck
    refine lv_if_gt hx hb hd h1 (fun q => ?_) (fun q => ?_)
    · rw [if_pos (by first | (simp [z_cmp]; done) | (simp [z_cmp, q]; done) | (simpa [z_cmp] using q))] at kk; exact kk
    · rw [if_neg (by first | (simp [z_cmp, q]; done) | (simpa [z_cmp] using q)), hn] at kk; exact kk
  · obtain ⟨⟨⟨rfl, h1⟩, rfl⟩, hn⟩ := hck
    refine lv_if_le hx hb hd h1 (fun q => ?_) (fun q => ?_)
    · rw [if_pos (by first | (simp [z_cmp]; done) | (simp [z_cmp, q]; done) | (simpa [z_cmp] using q))] at kk; exact kk
    · rw [if_neg (by first | (simp [z_cmp, q]; done) | (simpa [z_cmp] using q)), hn] at kk; exact kk
  · cases hck
theorem zs_icmp : z_Sn zo_icmp zk_icmp := by
  intro p l e R s m args below meth c Z D tc adK adV sb sx M nx ad0 n0 C S d Q a b ci k ins len pl hF hK hA hR hd hck lo st h k' lo' st' h' x y hop kc ks hW
  unfold zo_icmp at hop
  split at hop
  case h_2 => cases hop
  next vy vx st2 =>
  obtain ⟨rfl, rfl, rfl, rfl, rfl, rfl⟩ := zn_inj hop
  obtain ⟨hx, hb, hml, hr, hown, hts, -⟩ := hF
  intro ad H locs ls cells slots q1 q2 q3 q4 q5 q6 q7 q8 q9
  have kk := hW ad H locs ls cells slots q1 q2 q3 q4 q5 q6 (z_okT (z_okT q7)) q8 q9
  unfold zk_icmp at hck
  split at hck
  all_goals (try simp only [Bool.and_eq_true, decide_eq_true_eq] at hck)
  · obtain ⟨⟨⟨rfl, h1⟩, rfl⟩, hn⟩ := hck
    refine lv_icmp_eq hx hb hd h1 (fun q => ?_) (fun q => ?_)
    · rw [if_pos (by first | (simp [z_cmp]; done) | (simp [z_cmp, q]; done) | (simpa [z_cmp] using q))] at kk; exact kk
    · rw [if_neg (by first | (simp [z_cmp, q]; done) | (simpa [z_cmp] using q)), hn] at kk; exact kk
  · obtain ⟨⟨⟨rfl, h1⟩, rfl⟩, hn⟩ := hck
    refine lv_icmp_ne hx hb hd h1 (fun q => ?_) (fun q => ?_)
    · rw [if_pos (by first | (simp [z_cmp]; done) | (simp [z_cmp, q]; done) | (simpa [z_cmp] using q))] at kk; exact kk
    · rw [if_neg (by first | (simp [z_cmp, q]; done) | (simpa [z_cmp] using q)), hn] at kk; exact kk
  · obtain ⟨⟨⟨rfl, h1⟩, rfl⟩, hn⟩ := hck
    refine lv_icmp_lt hx hb hd h1 (fun q => ?_) (fun q => ?_)
    · rw [if_pos (by first | (simp [z_cmp]; done) | (simp [z_cmp, q]; done) | (simpa [z_cmp] using q))] at kk; exact kk
    · rw [if_neg (by first | (simp [z_cmp, q]; done) | (simpa [z_cmp] using q)), hn] at kk; exact kk
  · obtain ⟨⟨⟨rfl, h1⟩, rfl⟩, hn⟩ := hck
    refine lv_icmp_ge hx hb hd h1 (fun q => ?_) (fun q => ?_)
    · rw [if_pos (by first | (simp [z_cmp]; done) | (simp [z_cmp, q]; done) | (simpa [z_cmp] using q))] at kk; exact kk
    · rw [if_neg (by first | (simp [z_cmp, q]; done) | (simpa [z_cmp] using q)), hn] at kk; exact kk
  · obtain ⟨⟨⟨rfl, h1⟩, rfl⟩, hn⟩ := hck
    refine lv_icmp_gt hx hb hd h1 (fun q => ?_) (fun q => ?_)
    · rw [if_pos (by first | (simp [z_cmp]; done) | (simp [z_cmp, q]; done) | (simpa [z_cmp] using q))] at kk; exact kk
    · rw [if_neg (by first | (simp [z_cmp, q]; done) | (simpa [z_cmp] using q)), hn] at kk; exact kk
  · obtain ⟨⟨⟨rfl, h1⟩, rfl⟩, hn⟩ := hck
    refine lv_icmp_le hx hb hd h1 (fun q => ?_) (fun q => ?_)
    · rw [if_pos (by first | (simp [z_cmp]; done) | (simp [z_cmp, q]; done) | (simpa [z_cmp] using q))] at kk; exact kk
    · rw [if_neg (by first | (simp [z_cmp, q]; done) | (simpa [z_cmp] using q)), hn] at kk; exact kk
  · cases hck
noncomputable def zo_ifnn : zNop := fun _ _ a _ _ k l st h => match st with
  | .ref _ :: st => zn a l st h
  | .null :: st => zn (k + 1) l st h
  | _ => none
noncomputable def zk_ifnn : zCk := fun _ a _ _ pc ins len _ nx k => match ins with
  | .ifnonnull off => decide ((pc : Int) + off = (nx a : Int)) && decide (len = 3) && decide (nx (k + 1) = pc + 3)
  | _ => false
theorem zs_ifnn : z_Sn zo_ifnn zk_ifnn := by
  intro p l e R s m args below meth c Z D tc adK adV sb sx M nx ad0 n0 C S d Q a b ci k ins len pl hF hK hA hR hd hck lo st h k' lo' st' h' x y hop kc ks hW
  unfold zk_ifnn at hck
  split at hck
  case h_2 => cases hck
  next off =>
  simp only [Bool.and_eq_true, decide_eq_true_eq] at hck
  obtain ⟨⟨h1, rfl⟩, hn⟩ := hck
  unfold zo_ifnn at hop
  split at hop
  · obtain ⟨rfl, rfl, rfl, rfl, rfl, rfl⟩ := zn_inj hop
    obtain ⟨hx, hb, hml, hr, hown, hts, -⟩ := hF
    intro ad H locs ls cells slots q1 q2 q3 q4 q5 q6 q7 q8 q9
    exact lv_ifnonnull hx hb hd h1 (hW ad H locs ls cells slots q1 q2 q3 q4 q5 q6 (z_okT q7) q8 q9)
  · obtain ⟨rfl, rfl, rfl, rfl, rfl, rfl⟩ := zn_inj hop
    obtain ⟨hx, hb, hml, hr, hown, hts, -⟩ := hF
    intro ad H locs ls cells slots q1 q2 q3 q4 q5 q6 q7 q8 q9
    have kk := hW ad H locs ls cells slots q1 q2 q3 q4 q5 q6 (z_okT q7) q8 q9
    rw [hn] at kk
    exact lv_ifnonnullN hx hb hd kk
  · cases hop
/-! switches -/
noncomputable def z_swt (t : Int × List Nat × Nat) (x : Int32) : Nat := if x.toInt < t.1 then t.2.2 else (t.2.1[(x.toInt - t.1).toNat]?).getD t.2.2
noncomputable def zo_tsw : zNop := fun _ _ a _ _ _ l st h => match st with
  | .int x :: st => match z_sw[a]? with
    | some t => zn (z_swt t x) l st h
    | none => none
  | _ => none
noncomputable def zk_tsw : zCk := fun _ a _ _ pc ins _ _ nx _ => match ins with
  | .tableswitch dflt lo hi offs => match z_sw[a]? with
    | some t => decide (t.1 = lo) && decide ((pc : Int) + dflt = (nx t.2.2 : Int)) && decide (hi - lo + 1 = (t.2.1.length : Int)) && decide (offs.toList.map (fun o => (pc : Int) + o) = t.2.1.map (fun n => (nx n : Int)))
    | none => false
  | _ => false
theorem zs_tsw : z_Sn zo_tsw zk_tsw := by
  intro p l e R s m args below meth c Z D tc adK adV sb sx M nx ad0 n0 C S d Q a b ci k ins len pl hF hK hA hR hd hck lo st h k' lo' st' h' x y hop kc ks hW
  unfold zo_tsw at hop
  split at hop
  case h_2 => cases hop
  next vx st2 =>
  split at hop
  case h_2 => cases hop
  next t ht =>
  obtain ⟨rfl, rfl, rfl, rfl, rfl, rfl⟩ := zn_inj hop
  obtain ⟨hx, hb, hml, hr, hown, hts, -⟩ := hF
  intro ad H locs ls cells slots q1 q2 q3 q4 q5 q6 q7 q8 q9
  have kk := hW ad H locs ls cells slots q1 q2 q3 q4 q5 q6 (z_okT q7) q8 q9
  unfold zk_tsw at hck
  split at hck
  case h_2 => cases hck
  next dflt lo hi offs =>
  rw [ht] at hck
  simp only [Bool.and_eq_true, decide_eq_true_eq] at hck
  obtain ⟨⟨⟨h1, h2⟩, h3⟩, h4⟩ := hck
  have hlen : offs.toList.length = t.2.1.length := by have := congrArg List.length h4; simpa using this
  by_cases c1 : vx.toInt < lo
  · unfold z_swt at kk
    rw [h1, if_pos c1] at kk
    exact lv_tableOut hx hb hd (Or.inl c1) h2 kk
  · by_cases c2 : hi < vx.toInt
    · unfold z_swt at kk
      rw [h1, if_neg c1, List.getElem?_eq_none (by omega), Option.getD_none] at kk
      exact lv_tableOut hx hb hd (Or.inr c2) h2 kk
    · have hlt : (vx.toInt - lo).toNat < t.2.1.length := by omega
      have hlt2 : (vx.toInt - lo).toNat < offs.toList.length := by omega
      unfold z_swt at kk
      rw [h1, if_neg c1, List.getElem?_eq_getElem hlt, Option.getD_some] at kk
      have e1 : (offs.toList.map (fun o => ((nx k : Nat) : Int) + o))[(vx.toInt - lo).toNat]? = (t.2.1.map (fun n => (nx n : Int)))[(vx.toInt - lo).toNat]? := by rw [h4]
      rw [List.getElem?_map, List.getElem?_map, List.getElem?_eq_getElem hlt, List.getElem?_eq_getElem hlt2] at e1
      refine lv_tableIn hx hb hd c1 c2 (off := offs.toList[(vx.toInt - lo).toNat]) ?_ (by simpa using e1) kk
      rw [← Array.getElem?_toList, List.getElem?_eq_getElem hlt2]
noncomputable def z_lkt (t : List (Int × Nat) × Nat) (x : Int32) : Nat := ((t.1.find? (fun q => decide (q.1 = x.toInt))).map (fun q => q.2)).getD t.2
noncomputable def zo_lsw : zNop := fun _ _ a _ _ _ l st h => match st with
  | .int x :: st => match z_lk[a]? with
    | some t => zn (z_lkt t x) l st h
    | none => none
  | _ => none
