/-! what a frame stands on, what the room and the start give -/
noncomputable def z_T : List Cond := lw_tbl.filter goodWord
/-- a cheap number of a word: words of two numbers are two -/
noncomputable def z_key : Cond → Nat
  | .methodLink _ i _ => 16 * i + 1
  | .classLink _ i _ => 16 * i + 2
  | .fieldLink _ i _ _ _ => 16 * i + 3
  | .code _ _ n _ => 16 * n + 4
  | .codeWith _ _ n _ _ => 16 * n + 5
  | .instantiable _ n => 16 * n + 6
  | .stringRef _ n _ => 16 * n + 7
  | .initialized _ => 8
  | .static _ => 9
  | .lays _ _ _ _ => 10
  | .laysFinal _ _ _ _ => 11
  | .instanceMethod _ => 13
  | .selects _ _ _ => 14
  | .privateMethod _ => 15
  | .soleField _ _ => 0
  | _ => 12
noncomputable def z_mk (w : Cond) (T : List Cond) : Bool := T.any (fun v => Nat.beq (z_key w) (z_key v) && decide (w = v))
theorem z_mk_ok {w : Cond} {T : List Cond} (h : z_mk w T = true) : w ∈ T := by
  unfold z_mk at h
  obtain ⟨v, hv, e⟩ := List.any_eq_true.mp h
  rw [Bool.and_eq_true, decide_eq_true_eq] at e
  rw [e.2]
  exact hv
/-- the table from each 64th word on -/
noncomputable def z_chn : Nat → List Cond → List (List Cond)
  | 0, _ => []
  | n + 1, L => L :: z_chn n (L.drop 64)
theorem z_chn_in {w : Cond} : ∀ {n : Nat} {L L' : List Cond}, L' ∈ z_chn n L → w ∈ L' → w ∈ L
  | 0, _, _, h, _ => by cases h
  | n + 1, L, L', h, hw => by
    rcases List.mem_cons.mp h with rfl | h
    · exact hw
    · exact List.mem_of_mem_drop (z_chn_in h hw)
noncomputable def z_chs : List (List Cond) := z_chn 40 lw_tbl
noncomputable def z_w (w : Cond) (i : Nat) : Bool := (match z_chs[i / 64]? with
  | some L => decide (L[i % 64]? = some w)
  | none => false) && goodWord w
theorem z_w_in {w : Cond} {i : Nat} (h : z_w w i = true) : w ∈ z_T := by
  unfold z_w at h
  rw [Bool.and_eq_true] at h
  obtain ⟨h1, h2⟩ := h
  split at h1
  · next L hL => exact List.mem_filter.mpr ⟨z_chn_in (List.mem_of_getElem? hL) (List.mem_of_getElem? (of_decide_eq_true h1)), h2⟩
  · cases h1
noncomputable def z_Fr (p : Program) (s : State) (m : MethodId) (args : Array Value) (meth : Method) (c : Code) (M : zMi) : Prop :=
  p.tables.exec = Jvm.exec ∧ c.code = M.2.2.1 ∧ c.maxLocals = M.2.2.2.1 ∧ meth.sig.returnType = M.2.2.2.2.1 ∧ s.vm.findClass M.1 = some m.cls ∧ (∀ w ∈ z_T, w.before args s = true) ∧ meth.locks = false ∧ c.exceptionTable.toList = tableOf M.2.2.2.2.2 ∧ meth.name = M.2.1.name
noncomputable def z_tys (tc : Nat → ClassId) : List (ClassId × FieldType) := [(tc 0, .int), (tc 1, .byte), (tc 2, .long), (tc 3, .object RX2)]
noncomputable def z_nest : List Cond := [.methodLinkNest RX11 9 yX8_init RX11, .methodLinkNest RX11 18 yX4_init RX11, .methodLinkNest RX2 17 yX1_init RX11, .methodLinkNest RX2 24 yX9_init RX11, .methodLinkNest RX2 31 yX5_init RX11]
noncomputable def z_xw : List Cond := [.declares (Bundle.initS "java/lang/RuntimeException"), .declares (Bundle.initS "java/lang/Exception"), .declares (Bundle.initS "java/lang/Throwable"), .castable "java/lang/IllegalArgumentException" "java/lang/IllegalArgumentException", .castable "java/lang/UnsupportedOperationException" "java/lang/UnsupportedOperationException", .castable "java/lang/IndexOutOfBoundsException" "java/lang/IndexOutOfBoundsException", .castable "java/util/NoSuchElementException" "java/util/NoSuchElementException", .castable "java/lang/IllegalStateException" "java/lang/IllegalStateException"]
/-- what stays as it is below Z: the classes, the texts, the script -/
noncomputable def z_K (l : Launch) (Z : Nat) (D : va_G) (tc : Nat → ClassId) (adK adV : Nat → Nat) (sb : Nat) (sx : zX) (U : State) : Prop :=
  Z ≤ U.heap.size ∧ va_K D vwCl (z_tys tc) U ∧
  (∀ (k : Nat) (q : String × Nat × String × List Int32), z_strs[k]? = some q → vk_R q.1 q.2.1 q.2.2.1 (adK k) U ∧ vk_S 1 [q.2.2.2.length] [q.2.2.2] (fun _ => adK k) (fun _ => adV k) (fun q => Z ≤ q) U U.heap) ∧
  vx_Zq Bundle.tN "UNASSIGNED_STACK" Bundle.steD (fun q => Z ≤ q) U U.heap ∧ vx_Zq Bundle.tN "SUPPRESSED_SENTINEL" Bundle.listD (fun q => Z ≤ q) U U.heap ∧
  (∀ w ∈ z_nest, va_Nw w U) ∧ va_AO RX2 U ∧ va_X sb sx.1 sx.2 U U.heap ∧ sb < Z ∧ l.stackTraces = false ∧
  va_Z "java/lang/String" "COMPACT_STRINGS" "Z" (.int 1) (fun q => Z ≤ q) U U.heap ∧ va_Zq "jdk/internal/util/Preconditions" "SIOOBE_FORMATTER" "Ljava/util/function/BiFunction;" (fun q => Z ≤ q) U U.heap ∧
  va_Nw (.castable "[I" "java/lang/Cloneable") U ∧ (∀ a ∈ z_excs, ∀ b ∈ z_excs, a ≠ b → va_Nc a b U) ∧ ∀ w ∈ z_xw, va_Nw w U
noncomputable def z_A0 (adK : Nat → Nat) (sb : Nat) (ad0 : Nat → Nat) : Prop := (∀ k, k < z_strs.length → ad0 (zB + k) = adK k) ∧ ad0 zS = sb
noncomputable def z_Rm (R : Room) (d C S : Nat) : Prop := d ≤ R.frames ∧ 60 * d ≤ R.locals ∧ C ≤ R.cells ∧ S ≤ R.slots
/-- from here the machine comes to Q, whatever the machine's heap that holds h -/
noncomputable def z_W (p : Program) (l : Launch) (e : Env) (R : Room) (s : State) (m : MethodId) (args : Array Value) (below : List Frame) (meth : Method) (c : Code) (Z : Nat) (D : va_G) (tc : Nat → ClassId) (M : zMi) (nx : Nat → Nat) (ad0 : Nat → Nat) (n0 C S : Nat) (Q : State → Prop) (k : Nat) (lo : zL) (st : List Value) (h : zH) (kc ks : Nat) : Prop :=
  ∀ (ad : Nat → Nat) (H : Heap) (locs : List Loc) (ls : Array Slot) (cells slots : Nat), z_R Z D tc ad h H → z_ag n0 ad0 ad → n0 ≤ h.length → va_S (fun q => Z ≤ q) s.heap H locs → lv_has ls M.2.2.2.1 (z_tl ad lo) → (∀ q ∈ lo, z_okV h.length q.2) → (∀ v ∈ st, z_okV h.length v) → cells + kc = C → slots + ks = S →
    W p l e R s m args below meth c H locs cells slots Q (F0 m (nx k) ls (st.map (z_tr ad)))
abbrev zNop : Type := zX → Nat → Nat → Nat → Int → Nat → zL → List Value → zH → Option zN
abbrev zCk : Type := zMi → Nat → Nat → Int → Nat → Instr → Nat → List Nat → (Nat → Nat) → Nat → Bool
/-- a step of the abstract machine is the machine's -/
noncomputable def z_Sn (op : zNop) (ck : zCk) : Prop := ∀ (p : Program) (l : Launch) (e : Env) (R : Room) (s : State) (m : MethodId) (args : Array Value) (below : List Frame) (meth : Method) (c : Code) (Z : Nat) (D : va_G) (tc : Nat → ClassId) (adK adV : Nat → Nat) (sb : Nat) (sx : zX) (M : zMi) (nx : Nat → Nat) (ad0 : Nat → Nat) (n0 C S d : Nat) (Q : State → Prop) (a b : Nat) (ci : Int) (k : Nat) (ins : Instr) (len : Nat) (pl : List Nat),
  z_Fr p s m args meth c M → z_K l Z D tc adK adV sb sx s → z_A0 adK sb ad0 → z_Rm R d C S → decode M.2.2.1 (nx k) = .ok (ins, len) → ck M a b ci (nx k) ins len pl nx k = true →
  ∀ (lo : zL) (st : List Value) (h : zH) (k' : Nat) (lo' : zL) (st' : List Value) (h' : zH) (x y : Nat), op sx d a b ci k lo st h = some (k', lo', st', h', x, y) → ∀ kc ks, z_W p l e R s m args below meth c Z D tc M nx ad0 n0 C S Q k' lo' st' h' kc ks → z_W p l e R s m args below meth c Z D tc M nx ad0 n0 C S Q k lo st h (kc + x) (ks + y)
noncomputable def zn (k : Nat) (l : zL) (st : List Value) (h : zH) : Option zN := some (k, l, st, h, 0, 0)
theorem zn_inj {k k' : Nat} {l l' : zL} {st st' : List Value} {h h' : zH} {x y : Nat} (e : zn k l st h = some (k', l', st', h', x, y)) : k' = k ∧ l' = l ∧ st' = st ∧ h' = h ∧ x = 0 ∧ y = 0 := by
  unfold zn at e
  simp only [Option.some.injEq, Prod.mk.injEq] at e
  obtain ⟨h1, h2, h3, h4, h5, h6⟩ := e
  exact ⟨h1.symm, h2.symm, h3.symm, h4.symm, h5.symm, h6.symm⟩
theorem z_okC {n : Nat} {v : Value} {st : List Value} (hv : z_okV n v) (h : ∀ w ∈ st, z_okV n w) : ∀ w ∈ v :: st, z_okV n w := fun w hw => (List.mem_cons.mp hw).elim (fun e => by rw [e]; exact hv) (h w)
theorem z_ok1 {n : Nat} {v : Value} {st : List Value} (h : ∀ w ∈ v :: st, z_okV n w) : z_okV n v := h v List.mem_cons_self
theorem z_okT {n : Nat} {v : Value} {st : List Value} (h : ∀ w ∈ v :: st, z_okV n w) : ∀ w ∈ st, z_okV n w := fun w hw => h w (List.mem_cons_of_mem _ hw)
/-! constants and locals -/
noncomputable def zo_const : zNop := fun _ _ _ _ c k l st h => zn (k + 1) l (.int (Int32.ofInt c) :: st) h
noncomputable def zk_const : zCk := fun M _ _ c pc ins len pl nx k => match ins with
  | .iconst n => decide (n = c) && decide (len = 1) && decide (nx (k + 1) = pc + 1)
  | .bipush n => decide ((Int8.ofInt n).toInt32 = Int32.ofInt c) && decide (len = 2) && decide (nx (k + 1) = pc + 2)
  | .sipush n => decide ((Int16.ofInt n).toInt32 = Int32.ofInt c) && decide (len = 3) && decide (nx (k + 1) = pc + 3)
  | .ldc i => z_w (.constant M.1 i (Int32.ofInt c)) (pl.getD 0 0) && decide (len = 2) && decide (nx (k + 1) = pc + 2)
  | .ldc_w i => z_w (.constant M.1 i (Int32.ofInt c)) (pl.getD 0 0) && decide (len = 3) && decide (nx (k + 1) = pc + 3)
  | _ => false
theorem zs_const : z_Sn zo_const zk_const := by
  intro p l e R s m args below meth c Z D tc adK adV sb sx M nx ad0 n0 C S d Q a b ci k ins len pl hF hK hA hR hd hck lo st h k' lo' st' h' x y hop kc ks hW
  obtain ⟨rfl, rfl, rfl, rfl, rfl, rfl⟩ := zn_inj hop
  obtain ⟨hx, hb, hml, hr, hown, hts, -⟩ := hF
  intro ad H locs ls cells slots q1 q2 q3 q4 q5 q6 q7 q8 q9
  have kk := hW ad H locs ls cells slots q1 q2 q3 q4 q5 q6 (z_okC (z_okV_int _ _) q7) q8 q9
  unfold zk_const at hck
  split at hck
  all_goals (try simp only [Bool.and_eq_true, decide_eq_true_eq] at hck)
  · obtain ⟨⟨rfl, rfl⟩, hn⟩ := hck
    rw [hn] at kk
    exact lv_iconst hx hb hd rfl kk
  · obtain ⟨⟨h1, rfl⟩, hn⟩ := hck
    rw [hn] at kk
    exact lv_bipush hx hb hd h1 kk
  · obtain ⟨⟨h1, rfl⟩, hn⟩ := hck
    rw [hn] at kk
    exact lv_sipush hx hb hd h1 kk
  · obtain ⟨⟨h1, rfl⟩, hn⟩ := hck
    rw [hn] at kk
    exact lv_ldc hx hb hown (hts _ (z_w_in h1)) hd kk
  · obtain ⟨⟨h1, rfl⟩, hn⟩ := hck
    rw [hn] at kk
    exact lv_ldcw hx hb hown (hts _ (z_w_in h1)) hd kk
  · cases hck
noncomputable def zo_iload : zNop := fun _ _ a _ _ k l st h => match z_get l a with
  | some (.int x) => zn (k + 1) l (.int x :: st) h
  | _ => none
noncomputable def zk_iload : zCk := fun _ a _ _ pc ins len _ nx k => match ins with
  | .iload i => decide (i = a) && decide (len = 2) && decide (nx (k + 1) = pc + 2)
  | .iload_n i => decide ((i : Nat) = a) && decide (len = 1) && decide (nx (k + 1) = pc + 1)
  | _ => false
theorem zs_iload : z_Sn zo_iload zk_iload := by
  intro p l e R s m args below meth c Z D tc adK adV sb sx M nx ad0 n0 C S d Q a b ci k ins len pl hF hK hA hR hd hck lo st h k' lo' st' h' x y hop kc ks hW
  unfold zo_iload at hop
  split at hop
  case h_2 => cases hop
  next v hg =>
  obtain ⟨rfl, rfl, rfl, rfl, rfl, rfl⟩ := zn_inj hop
  obtain ⟨hx, hb, hml, hr, hown, hts, -⟩ := hF
  intro ad H locs ls cells slots q1 q2 q3 q4 q5 q6 q7 q8 q9
  have kk := hW ad H locs ls cells slots q1 q2 q3 q4 q5 q6 (z_okC (z_okV_int _ _) q7) q8 q9
  have hl := z_tl_at q5 hg
  unfold zk_iload at hck
  split at hck
  all_goals (try simp only [Bool.and_eq_true, decide_eq_true_eq] at hck)
  · obtain ⟨⟨rfl, rfl⟩, hn⟩ := hck
    rw [hn] at kk
    exact lv_iload hx hb hd hl kk
  · obtain ⟨⟨h1, rfl⟩, hn⟩ := hck
    rw [hn] at kk
    exact lv_iload_n hx hb hd h1 hl kk
  · cases hck
noncomputable def zo_aload : zNop := fun _ _ a _ _ k l st h => match z_get l a with
  | some (.ref x) => zn (k + 1) l (.ref x :: st) h
  | _ => none
noncomputable def zk_aload : zCk := fun _ a _ _ pc ins len _ nx k => match ins with
  | .aload i => decide (i = a) && decide (len = 2) && decide (nx (k + 1) = pc + 2)
  | .aload_n i => decide ((i : Nat) = a) && decide (len = 1) && decide (nx (k + 1) = pc + 1)
  | _ => false
theorem zs_aload : z_Sn zo_aload zk_aload := by
  intro p l e R s m args below meth c Z D tc adK adV sb sx M nx ad0 n0 C S d Q a b ci k ins len pl hF hK hA hR hd hck lo st h k' lo' st' h' x y hop kc ks hW
  unfold zo_aload at hop
  split at hop
  case h_2 => cases hop
  next v hg =>
  obtain ⟨rfl, rfl, rfl, rfl, rfl, rfl⟩ := zn_inj hop
  obtain ⟨hx, hb, hml, hr, hown, hts, -⟩ := hF
  intro ad H locs ls cells slots q1 q2 q3 q4 q5 q6 q7 q8 q9
  have kk := hW ad H locs ls cells slots q1 q2 q3 q4 q5 q6 (z_okC (q6 _ (z_get_mem hg)) q7) q8 q9
  have hl := z_tl_at q5 hg
  unfold zk_aload at hck
  split at hck
  all_goals (try simp only [Bool.and_eq_true, decide_eq_true_eq] at hck)
  · obtain ⟨⟨rfl, rfl⟩, hn⟩ := hck
    rw [hn] at kk
    exact lv_aload hx hb hd hl kk
  · obtain ⟨⟨h1, rfl⟩, hn⟩ := hck
    rw [hn] at kk
    exact lv_aload_n hx hb hd h1 hl kk
  · cases hck
noncomputable def zo_lload : zNop := fun _ _ a _ _ k l st h => match z_get l a with
  | some (.long x) => zn (k + 1) l (.long x :: st) h
  | _ => none
noncomputable def zk_lload : zCk := fun _ a _ _ pc ins len _ nx k => match ins with
  | .lload i => decide (i = a) && decide (len = 2) && decide (nx (k + 1) = pc + 2)
  | .lload_n i => decide ((i : Nat) = a) && decide (len = 1) && decide (nx (k + 1) = pc + 1)
  | _ => false
theorem zs_lload : z_Sn zo_lload zk_lload := by
  intro p l e R s m args below meth c Z D tc adK adV sb sx M nx ad0 n0 C S d Q a b ci k ins len pl hF hK hA hR hd hck lo st h k' lo' st' h' x y hop kc ks hW
  unfold zo_lload at hop
  split at hop
  case h_2 => cases hop
  next v hg =>
  obtain ⟨rfl, rfl, rfl, rfl, rfl, rfl⟩ := zn_inj hop
  obtain ⟨hx, hb, hml, hr, hown, hts, -⟩ := hF
  intro ad H locs ls cells slots q1 q2 q3 q4 q5 q6 q7 q8 q9
  have kk := hW ad H locs ls cells slots q1 q2 q3 q4 q5 q6 (z_okC (z_okV_long _ _) q7) q8 q9
  have hl := z_tl_at q5 hg
  unfold zk_lload at hck
  split at hck
  all_goals (try simp only [Bool.and_eq_true, decide_eq_true_eq] at hck)
  · obtain ⟨⟨rfl, rfl⟩, hn⟩ := hck
    rw [hn] at kk
    exact lv_lload hx hb hd hl kk
  · obtain ⟨⟨h1, rfl⟩, hn⟩ := hck
    rw [hn] at kk
    exact lv_lload_n hx hb hd h1 hl kk
  · cases hck
noncomputable def zo_istore : zNop := fun _ _ a _ _ k l st h => match st with
  | .int x :: st => zn (k + 1) (z_set1 l a (.int x)) st h
  | _ => none
noncomputable def zk_istore : zCk := fun M a _ _ pc ins len _ nx k => decide (a < M.2.2.2.1) && match ins with
  | .istore i => decide (i = a) && decide (len = 2) && decide (nx (k + 1) = pc + 2)
  | .istore_n i => decide ((i : Nat) = a) && decide (len = 1) && decide (nx (k + 1) = pc + 1)
  | _ => false
theorem zs_istore : z_Sn zo_istore zk_istore := by
  intro p l e R s m args below meth c Z D tc adK adV sb sx M nx ad0 n0 C S d Q a b ci k ins len pl hF hK hA hR hd hck lo st h k' lo' st' h' x y hop kc ks hW
  unfold zo_istore at hop
  split at hop
  case h_2 => cases hop
  next v st2 =>
  obtain ⟨rfl, rfl, rfl, rfl, rfl, rfl⟩ := zn_inj hop
  obtain ⟨hx, hb, hml, hr, hown, hts, -⟩ := hF
  intro ad H locs ls cells slots q1 q2 q3 q4 q5 q6 q7 q8 q9
  have kk := fun ls hl => hW ad H locs ls cells slots q1 q2 q3 q4 hl (z_set1_ok q6 (z_okV_int _ _)) (z_okT q7) q8 q9
  unfold zk_istore at hck
  rw [Bool.and_eq_true] at hck
  obtain ⟨ha, hck⟩ := hck
  have ha := of_decide_eq_true ha
  split at hck
  all_goals (try simp only [Bool.and_eq_true, decide_eq_true_eq] at hck)
  · obtain ⟨⟨rfl, rfl⟩, hn⟩ := hck
    rw [hn] at kk
    exact lv_istore hx hb hd q5 ha (z_tl_set1 ad _ _ (.int v)) kk
  · obtain ⟨⟨h1, rfl⟩, hn⟩ := hck
    rw [hn] at kk
    exact lv_istore_n hx hb hd h1 q5 ha (z_tl_set1 ad _ _ (.int v)) kk
  · cases hck
noncomputable def zo_astore : zNop := fun _ _ a _ _ k l st h => match st with
  | .ref x :: st => zn (k + 1) (z_set1 l a (.ref x)) st h
  | _ => none
noncomputable def zk_astore : zCk := fun M a _ _ pc ins len _ nx k => decide (a < M.2.2.2.1) && match ins with
  | .astore i => decide (i = a) && decide (len = 2) && decide (nx (k + 1) = pc + 2)
  | .astore_n i => decide ((i : Nat) = a) && decide (len = 1) && decide (nx (k + 1) = pc + 1)
  | _ => false
theorem zs_astore : z_Sn zo_astore zk_astore := by
  intro p l e R s m args below meth c Z D tc adK adV sb sx M nx ad0 n0 C S d Q a b ci k ins len pl hF hK hA hR hd hck lo st h k' lo' st' h' x y hop kc ks hW
  unfold zo_astore at hop
  split at hop
  case h_2 => cases hop
  next v st2 =>
  obtain ⟨rfl, rfl, rfl, rfl, rfl, rfl⟩ := zn_inj hop
  obtain ⟨hx, hb, hml, hr, hown, hts, -⟩ := hF
  intro ad H locs ls cells slots q1 q2 q3 q4 q5 q6 q7 q8 q9
  have kk := fun ls hl => hW ad H locs ls cells slots q1 q2 q3 q4 hl (z_set1_ok q6 (z_ok1 q7)) (z_okT q7) q8 q9
  unfold zk_astore at hck
  rw [Bool.and_eq_true] at hck
  obtain ⟨ha, hck⟩ := hck
  have ha := of_decide_eq_true ha
  split at hck
  all_goals (try simp only [Bool.and_eq_true, decide_eq_true_eq] at hck)
  · obtain ⟨⟨rfl, rfl⟩, hn⟩ := hck
    rw [hn] at kk
    exact lv_astore hx hb hd q5 ha (z_tl_set1 ad _ _ (.ref v)) kk
  · obtain ⟨⟨h1, rfl⟩, hn⟩ := hck
    rw [hn] at kk
    exact lv_astore_n hx hb hd h1 q5 ha (z_tl_set1 ad _ _ (.ref v)) kk
  · cases hck
noncomputable def zo_lstore : zNop := fun _ _ a _ _ k l st h => match st with
  | .long x :: st => zn (k + 1) (z_set2 l a (.long x)) st h
  | _ => none
noncomputable def zk_lstore : zCk := fun M a _ _ pc ins len _ nx k => decide (a + 1 < M.2.2.2.1) && match ins with
  | .lstore i => decide (i = a) && decide (len = 2) && decide (nx (k + 1) = pc + 2)
  | .lstore_n i => decide ((i : Nat) = a) && decide (len = 1) && decide (nx (k + 1) = pc + 1)
  | _ => false
theorem zs_lstore : z_Sn zo_lstore zk_lstore := by
  intro p l e R s m args below meth c Z D tc adK adV sb sx M nx ad0 n0 C S d Q a b ci k ins len pl hF hK hA hR hd hck lo st h k' lo' st' h' x y hop kc ks hW
  unfold zo_lstore at hop
  split at hop
  case h_2 => cases hop
  next v st2 =>
  obtain ⟨rfl, rfl, rfl, rfl, rfl, rfl⟩ := zn_inj hop
  obtain ⟨hx, hb, hml, hr, hown, hts, -⟩ := hF
  intro ad H locs ls cells slots q1 q2 q3 q4 q5 q6 q7 q8 q9
  have kk := fun ls hl => hW ad H locs ls cells slots q1 q2 q3 q4 hl (z_set2_ok q6 (z_okV_long _ _)) (z_okT q7) q8 q9
  unfold zk_lstore at hck
  rw [Bool.and_eq_true] at hck
  obtain ⟨ha, hck⟩ := hck
  have ha := of_decide_eq_true ha
  split at hck
  all_goals (try simp only [Bool.and_eq_true, decide_eq_true_eq] at hck)
  · obtain ⟨⟨rfl, rfl⟩, hn⟩ := hck
    rw [hn] at kk
    exact lv_lstore hx hb hd q5 ha (z_tl_set2 ad _ _ (.long v)) kk
  · obtain ⟨⟨h1, rfl⟩, hn⟩ := hck
    rw [hn] at kk
    exact lv_lstore_n hx hb hd h1 q5 ha (z_tl_set2 ad _ _ (.long v)) kk
  · cases hck
noncomputable def zo_iinc : zNop := fun _ _ a _ c k l st h => match z_get l a with
  | some (.int x) => zn (k + 1) (z_set1 l a (.int (x + Int32.ofInt c))) st h
  | _ => none
noncomputable def zk_iinc : zCk := fun M a _ c pc ins len _ nx k => decide (a < M.2.2.2.1) && match ins with
  | .iinc i n => decide (i = a) && decide (n = c) && decide (len = 3) && decide (nx (k + 1) = pc + 3)
  | _ => false
theorem zs_iinc : z_Sn zo_iinc zk_iinc := by
  intro p l e R s m args below meth c Z D tc adK adV sb sx M nx ad0 n0 C S d Q a b ci k ins len pl hF hK hA hR hd hck lo st h k' lo' st' h' x y hop kc ks hW
  unfold zo_iinc at hop
  split at hop
  case h_2 => cases hop
  next v hg =>
  obtain ⟨rfl, rfl, rfl, rfl, rfl, rfl⟩ := zn_inj hop
  obtain ⟨hx, hb, hml, hr, hown, hts, -⟩ := hF
  intro ad H locs ls cells slots q1 q2 q3 q4 q5 q6 q7 q8 q9
  have kk := fun ls hl => hW ad H locs ls cells slots q1 q2 q3 q4 hl (z_set1_ok q6 (z_okV_int _ _)) q7 q8 q9
  have hm : (a, Value.int v) ∈ z_tl ad lo := List.mem_map.mpr ⟨(a, .int v), z_get_mem hg, rfl⟩
  obtain ⟨kk0, hk0⟩ := List.getElem?_of_mem hm
  unfold zk_iinc at hck
  rw [Bool.and_eq_true] at hck
  obtain ⟨ha, hck⟩ := hck
  have ha := of_decide_eq_true ha
  split at hck
  all_goals (try simp only [Bool.and_eq_true, decide_eq_true_eq] at hck)
  · obtain ⟨⟨⟨rfl, rfl⟩, rfl⟩, hn⟩ := hck
    rw [hn] at kk
    exact lv_iinc hx hb hd q5 hk0 rfl ha (z_tl_set1 ad _ _ (.int _)) kk
  · cases hck
