section
/-! what a frame stands on, what the room and the start give -/
noncomputable def z_T : List Cond := lw_tbl.filter goodWord
/-- a cheap number of a word: words of two numbers are two -/
noncomputable def z_key : Cond → Nat
  | .methodLink _ i _ => 16 * i + 1
  | .classLink _ i _ => 16 * i + 2
  | .fieldLink _ i _ _ _ => 16 * i + 3
  | .code _ _ n _ => 16 * n + 4
  | .codeWith _ _ n _ _ => 16 * n + 5
  | .instantiable _ n => 16 * n + 6
  | .stringRef _ n _ => 16 * n + 7
  | .initialized _ => 8
  | .static _ => 9
  | .lays _ _ _ _ => 10
  | .laysFinal _ _ _ _ => 11
  | .instanceMethod _ => 13
  | .selects _ _ _ => 14
  | .privateMethod _ => 15
  | .soleField _ _ => 0
  | _ => 12
noncomputable def z_mk (w : Cond) (T : List Cond) : Bool := T.any (fun v => Nat.beq (z_key w) (z_key v) && decide (w = v))
theorem z_mk_ok {w : Cond} {T : List Cond} (h : z_mk w T = true) : w ∈ T := by
  unfold z_mk at h
  obtain ⟨v, hv, e⟩ := List.any_eq_true.mp h
  rw [Bool.and_eq_true, decide_eq_true_eq] at e
  rw [e.2]
  exact hv
/-- the table from each 64th word on -/
noncomputable def z_chn : Nat → List Cond → List (List Cond)
  | 0, _ => []
  | n + 1, L => L :: z_chn n (L.drop 64)
theorem z_chn_in {w : Cond} : ∀ {n : Nat} {L L' : List Cond}, L' ∈ z_chn n L → w ∈ L' → w ∈ L
  | 0, _, _, h, _ => by cases h
  | n + 1, L, L', h, hw => by
    rcases List.mem_cons.mp h with rfl | h
    · exact hw
    · exact List.mem_of_mem_drop (z_chn_in h hw)
noncomputable def z_chs : List (List Cond) := z_chn 40 lw_tbl
noncomputable def z_w (w : Cond) (i : Nat) : Bool := (match z_chs[i / 64]? with
  | some L => decide (L[i % 64]? = some w)
  | none => false) && goodWord w
theorem z_w_in {w : Cond} {i : Nat} (h : z_w w i = true) : w ∈ z_T := by
  unfold z_w at h
  rw [Bool.and_eq_true] at h
  obtain ⟨h1, h2⟩ := h
  split at h1
  · next L hL => exact List.mem_filter.mpr ⟨z_chn_in (List.mem_of_getElem? hL) (List.mem_of_getElem? (of_decide_eq_true h1)), h2⟩
  · cases h1
noncomputable def z_Fr (p : Program) (s : State) (m : MethodId) (args : Array Value) (meth : Method) (c : Code) (M : zMi) : Prop :=
  p.tables.exec = Jvm.exec ∧ c.code = M.2.2.1 ∧ c.maxLocals = M.2.2.2.1 ∧ meth.sig.returnType = M.2.2.2.2.1 ∧ s.vm.findClass M.1 = some m.cls ∧ (∀ w ∈ z_T, w.before args s = true) ∧ meth.locks = false ∧ c.exceptionTable.toList = tableOf M.2.2.2.2.2 ∧ meth.name = M.2.1.name
noncomputable def z_tys (tc : Nat → ClassId) : List (ClassId × FieldType) := [(tc 0, .int), (tc 1, .byte), (tc 2, .long), (tc 3, .object RX2)]
noncomputable def z_nest : List Cond := [.methodLinkNest RX11 9 yX8_init RX11, .methodLinkNest RX11 18 yX4_init RX11, .methodLinkNest RX2 17 yX1_init RX11, .methodLinkNest RX2 24 yX9_init RX11, .methodLinkNest RX2 31 yX5_init RX11]
noncomputable def z_xw : List Cond := [.declares (Bundle.initS "java/lang/RuntimeException"), .declares (Bundle.initS "java/lang/Exception"), .declares (Bundle.initS "java/lang/Throwable"), .castable "java/lang/IllegalArgumentException" "java/lang/IllegalArgumentException", .castable "java/lang/UnsupportedOperationException" "java/lang/UnsupportedOperationException", .castable "java/lang/IndexOutOfBoundsException" "java/lang/IndexOutOfBoundsException", .castable "java/util/NoSuchElementException" "java/util/NoSuchElementException", .castable "java/lang/IllegalStateException" "java/lang/IllegalStateException"]
/-- what stays as it is below Z: the classes, the texts, the script -/
noncomputable def z_K (l : Launch) (Z : Nat) (D : va_G) (tc : Nat → ClassId) (adK adV : Nat → Nat) (sb : Nat) (sx : zX) (U : State) : Prop :=
  Z ≤ U.heap.size ∧ va_K D vwCl (z_tys tc) U ∧
  (∀ (k : Nat) (q : String × Nat × String × List Int32), z_strs[k]? = some q → vk_R q.1 q.2.1 q.2.2.1 (adK k) U ∧ vk_S 1 [q.2.2.2.length] [q.2.2.2] (fun _ => adK k) (fun _ => adV k) (fun q => Z ≤ q) U U.heap) ∧
  vx_Zq Bundle.tN "UNASSIGNED_STACK" Bundle.steD (fun q => Z ≤ q) U U.heap ∧ vx_Zq Bundle.tN "SUPPRESSED_SENTINEL" Bundle.listD (fun q => Z ≤ q) U U.heap ∧
  (∀ w ∈ z_nest, va_Nw w U) ∧ va_AO RX2 U ∧ va_X sb sx.1 sx.2 U U.heap ∧ sb < Z ∧ l.stackTraces = false ∧
  va_Z "java/lang/String" "COMPACT_STRINGS" "Z" (.int 1) (fun q => Z ≤ q) U U.heap ∧ va_Zq "jdk/internal/util/Preconditions" "SIOOBE_FORMATTER" "Ljava/util/function/BiFunction;" (fun q => Z ≤ q) U U.heap ∧
  va_Nw (.castable "[I" "java/lang/Cloneable") U ∧ (∀ a ∈ z_excs, ∀ b ∈ z_excs, a ≠ b → va_Nc a b U) ∧ ∀ w ∈ z_xw, va_Nw w U
noncomputable def z_A0 (adK : Nat → Nat) (sb : Nat) (ad0 : Nat → Nat) : Prop := (∀ k, k < z_strs.length → ad0 (zB + k) = adK k) ∧ ad0 zS = sb
noncomputable def z_Rm (R : Room) (d C S : Nat) : Prop := d ≤ R.frames ∧ 60 * d ≤ R.locals ∧ C ≤ R.cells ∧ S ≤ R.slots
/-- from here the machine comes to Q, whatever the machine's heap that holds h -/
noncomputable def z_W (p : Program) (l : Launch) (e : Env) (R : Room) (s : State) (m : MethodId) (args : Array Value) (below : List Frame) (meth : Method) (c : Code) (Z : Nat) (D : va_G) (tc : Nat → ClassId) (M : zMi) (nx : Nat → Nat) (ad0 : Nat → Nat) (n0 C S : Nat) (Q : State → Prop) (k : Nat) (lo : zL) (st : List Value) (h : zH) (kc ks : Nat) : Prop :=
  ∀ (ad : Nat → Nat) (H : Heap) (locs : List Loc) (ls : Array Slot) (cells slots : Nat), z_R Z D tc ad h H → z_ag n0 ad0 ad → n0 ≤ h.length → va_S (fun q => Z ≤ q) s.heap H locs → lv_has ls M.2.2.2.1 (z_tl ad lo) → (∀ q ∈ lo, z_okV h.length q.2) → (∀ v ∈ st, z_okV h.length v) → cells + kc = C → slots + ks = S →
    W p l e R s m args below meth c H locs cells slots Q (F0 m (nx k) ls (st.map (z_tr ad)))
abbrev zNop : Type := zX → Nat → Nat → Nat → Int → Nat → zL → List Value → zH → Option zN
abbrev zCk : Type := zMi → Nat → Nat → Int → Nat → Instr → Nat → List Nat → (Nat → Nat) → Nat → Bool
/-- a step of the abstract machine is the machine's -/
noncomputable def z_Sn (op : zNop) (ck : zCk) : Prop := ∀ (p : Program) (l : Launch) (e : Env) (R : Room) (s : State) (m : MethodId) (args : Array Value) (below : List Frame) (meth : Method) (c : Code) (Z : Nat) (D : va_G) (tc : Nat → ClassId) (adK adV : Nat → Nat) (sb : Nat) (sx : zX) (M : zMi) (nx : Nat → Nat) (ad0 : Nat → Nat) (n0 C S d : Nat) (Q : State → Prop) (a b : Nat) (ci : Int) (k : Nat) (ins : Instr) (len : Nat) (pl : List Nat),
  z_Fr p s m args meth c M → z_K l Z D tc adK adV sb sx s → z_A0 adK sb ad0 → z_Rm R d C S → decode M.2.2.1 (nx k) = .ok (ins, len) → ck M a b ci (nx k) ins len pl nx k = true →
  ∀ (lo : zL) (st : List Value) (h : zH) (k' : Nat) (lo' : zL) (st' : List Value) (h' : zH) (x y : Nat), op sx d a b ci k lo st h = some (k', lo', st', h', x, y) → ∀ kc ks, z_W p l e R s m args below meth c Z D tc M nx ad0 n0 C S Q k' lo' st' h' kc ks → z_W p l e R s m args below meth c Z D tc M nx ad0 n0 C S Q k lo st h (kc + x) (ks + y)
noncomputable def zn (k : Nat) (l : zL) (st : List Value) (h : zH) : Option zN := some (k, l, st, h, 0, 0)
theorem zn_inj {k k' : Nat} {l l' : zL} {st st' : List Value} {h h' : zH} {x y : Nat} (e : zn k l st h = some (k', l', st', h', x, y)) : k' = k ∧ l' = l ∧ st' = st ∧ h' = h ∧ x = 0 ∧ y = 0 := by
  unfold zn at e
  simp only [Option.some.injEq, Prod.mk.injEq] at e
  obtain ⟨h1, h2, h3, h4, h5, h6⟩ := e
  exact ⟨h1.symm, h2.symm, h3.symm, h4.symm, h5.symm, h6.symm⟩
theorem z_okC {n : Nat} {v : Value} {st : List Value} (hv : z_okV n v) (h : ∀ w ∈ st, z_okV n w) : ∀ w ∈ v :: st, z_okV n w := fun w hw => (List.mem_cons.mp hw).elim (fun e => by rw [e]; exact hv) (h w)
theorem z_ok1 {n : Nat} {v : Value} {st : List Value} (h : ∀ w ∈ v :: st, z_okV n w) : z_okV n v := h v List.mem_cons_self
theorem z_okT {n : Nat} {v : Value} {st : List Value} (h : ∀ w ∈ v :: st, z_okV n w) : ∀ w ∈ st, z_okV n w := fun w hw => h w (List.mem_cons_of_mem _ hw)
/-! constants and locals -/
noncomputable def zo_const : zNop := fun _ _ _ _ c k l st h => zn (k + 1) l (.int (Int32.ofInt c) :: st) h
noncomputable def zk_const : zCk := fun M _ _ c pc ins len pl nx k => match ins with
  | .iconst n => decide (n = c) && decide (len = 1) && decide (nx (k + 1) = pc + 1)
  | .bipush n => decide ((Int8.ofInt n).toInt32 = Int32.ofInt c) && decide (len = 2) && decide (nx (k + 1) = pc + 2)
  | .sipush n => decide ((Int16.ofInt n).toInt32 = Int32.ofInt c) && decide (len = 3) && decide (nx (k + 1) = pc + 3)
  | .ldc i => z_w (.constant M.1 i (Int32.ofInt c)) (pl.getD 0 0) && decide (len = 2) && decide (nx (k + 1) = pc + 2)
  | .ldc_w i => z_w (.constant M.1 i (Int32.ofInt c)) (pl.getD 0 0) && decide (len = 3) && decide (nx (k + 1) = pc + 3)
  | _ => false
theorem zs_const : z_Sn zo_const zk_const := by
  intro p l e R s m args below meth c Z D tc adK adV sb sx M nx ad0 n0 C S d Q a b ci k ins len pl hF hK hA hR hd hck lo st h k' lo' st' h' x y hop kc ks hW
  obtain ⟨rfl, rfl, rfl, rfl, rfl, rfl⟩ := zn_inj hop
  obtain ⟨hx, hb, hml, hr, hown, hts, -⟩ := hF
  intro ad H locs ls cells slots q1 q2 q3 q4 q5 q6 q7 q8 q9
  have kk := hW ad H locs ls cells slots q1 q2 q3 q4 q5 q6 (z_okC (z_okV_int _ _) q7) q8 q9
  unfold zk_const at hck
  split at hck
  all_goals (try simp only [Bool.and_eq_true, decide_eq_true_eq] at hck)
  · obtain ⟨⟨rfl, rfl⟩, hn⟩ := hck
    rw [hn] at kk
    exact lv_iconst hx hb hd rfl kk
  · obtain ⟨⟨h1, rfl⟩, hn⟩ := hck
    rw [hn] at kk
    exact lv_bipush hx hb hd h1 kk
  · obtain ⟨⟨h1, rfl⟩, hn⟩ := hck
    rw [hn] at kk
    exact lv_sipush hx hb hd h1 kk
  · obtain ⟨⟨h1, rfl⟩, hn⟩ := hck
    rw [hn] at kk
    exact lv_ldc hx hb hown (hts _ (z_w_in h1)) hd kk
  · obtain ⟨⟨h1, rfl⟩, hn⟩ := hck
    rw [hn] at kk
    exact lv_ldcw hx hb hown (hts _ (z_w_in h1)) hd kk
  · cases hck
noncomputable def zo_iload : zNop := fun _ _ a _ _ k l st h => match z_get l a with
  | some (.int x) => zn (k + 1) l (.int x :: st) h
  | _ => none
noncomputable def zk_iload : zCk := fun _ a _ _ pc ins len _ nx k => match ins with
  | .iload i => decide (i = a) && decide (len = 2) && decide (nx (k + 1) = pc + 2)
  | .iload_n i => decide ((i : Nat) = a) && decide (len = 1) && decide (nx (k + 1) = pc + 1)
  | _ => false
theorem zs_iload : z_Sn zo_iload zk_iload := by
  intro p l e R s m args below meth c Z D tc adK adV sb sx M nx ad0 n0 C S d Q a b ci k ins len pl hF hK hA hR hd hck lo st h k' lo' st' h' x y hop kc ks hW
  unfold zo_iload at hop
  split at hop
  case h_2 => cases hop
  next v hg =>
  obtain ⟨rfl, rfl, rfl, rfl, rfl, rfl⟩ := zn_inj hop
  obtain ⟨hx, hb, hml, hr, hown, hts, -⟩ := hF
  intro ad H locs ls cells slots q1 q2 q3 q4 q5 q6 q7 q8 q9
  have kk := hW ad H locs ls cells slots q1 q2 q3 q4 q5 q6 (z_okC (z_okV_int _ _) q7) q8 q9
  have hl := z_tl_at q5 hg
  unfold zk_iload at hck
  split at hck
  all_goals (try simp only [Bool.and_eq_true, decide_eq_true_eq] at hck)
  · obtain ⟨⟨rfl, rfl⟩, hn⟩ := hck
    rw [hn] at kk
    exact lv_iload hx hb hd hl kk
  · obtain ⟨⟨h1, rfl⟩, hn⟩ := hck
    rw [hn] at kk
    exact lv_iload_n hx hb hd h1 hl kk
  · cases hck
noncomputable def zo_aload : zNop := fun _ _ a _ _ k l st h => match z_get l a with
  | some (.ref x) => zn (k + 1) l (.ref x :: st) h
  | _ => none
noncomputable def zk_aload : zCk := fun _ a _ _ pc ins len _ nx k => match ins with
  | .aload i => decide (i = a) && decide (len = 2) && decide (nx (k + 1) = pc + 2)
  | .aload_n i => decide ((i : Nat) = a) && decide (len = 1) && decide (nx (k + 1) = pc + 1)
  | _ => false
theorem zs_aload : z_Sn zo_aload zk_aload := by
  intro p l e R s m args below meth c Z D tc adK adV sb sx M nx ad0 n0 C S d Q a b ci k ins len pl hF hK hA hR hd hck lo st h k' lo' st' h' x y hop kc ks hW
  unfold zo_aload at hop
  split at hop
  case h_2 => cases hop
  next v hg =>
  obtain ⟨rfl, rfl, rfl, rfl, rfl, rfl⟩ := zn_inj hop
  obtain ⟨hx, hb, hml, hr, hown, hts, -⟩ := hF
  intro ad H locs ls cells slots q1 q2 q3 q4 q5 q6 q7 q8 q9
  have kk := hW ad H locs ls cells slots q1 q2 q3 q4 q5 q6 (z_okC (q6 _ (z_get_mem hg)) q7) q8 q9
  have hl := z_tl_at q5 hg
  unfold zk_aload at hck
  split at hck
  all_goals (try simp only [Bool.and_eq_true, decide_eq_true_eq] at hck)
  · obtain ⟨⟨rfl, rfl⟩, hn⟩ := hck
    rw [hn] at kk
    exact lv_aload hx hb hd hl kk
  · obtain ⟨⟨h1, rfl⟩, hn⟩ := hck
    rw [hn] at kk
    exact lv_aload_n hx hb hd h1 hl kk
  · cases hck
noncomputable def zo_lload : zNop := fun _ _ a _ _ k l st h => match z_get l a with
  | some (.long x) => zn (k + 1) l (.long x :: st) h
  | _ => none
noncomputable def zk_lload : zCk := fun _ a _ _ pc ins len _ nx k => match ins with
  | .lload i => decide (i = a) && decide (len = 2) && decide (nx (k + 1) = pc + 2)
  | .lload_n i => decide ((i : Nat) = a) && decide (len = 1) && decide (nx (k + 1) = pc + 1)
  | _ => false
theorem zs_lload : z_Sn zo_lload zk_lload := by
  intro p l e R s m args below meth c Z D tc adK adV sb sx M nx ad0 n0 C S d Q a b ci k ins len pl hF hK hA hR hd hck lo st h k' lo' st' h' x y hop kc ks hW
  unfold zo_lload at hop
  split at hop
  case h_2 => cases hop
  next v hg =>
  obtain ⟨rfl, rfl, rfl, rfl, rfl, rfl⟩ := zn_inj hop
  obtain ⟨hx, hb, hml, hr, hown, hts, -⟩ := hF
  intro ad H locs ls cells slots q1 q2 q3 q4 q5 q6 q7 q8 q9
  have kk := hW ad H locs ls cells slots q1 q2 q3 q4 q5 q6 (z_okC (z_okV_long _ _) q7) q8 q9
  have hl := z_tl_at q5 hg
  unfold zk_lload at hck
  split at hck
  all_goals (try simp only [Bool.and_eq_true, decide_eq_true_eq] at hck)
  · obtain ⟨⟨rfl, rfl⟩, hn⟩ := hck
    rw [hn] at kk
    exact lv_lload hx hb hd hl kk
  · obtain ⟨⟨h1, rfl⟩, hn⟩ := hck
    rw [hn] at kk
    exact lv_lload_n hx hb hd h1 hl kk
  · cases hck
noncomputable def zo_istore : zNop := fun _ _ a _ _ k l st h => match st with
  | .int x :: st => zn (k + 1) (z_set1 l a (.int x)) st h
  | _ => none
noncomputable def zk_istore : zCk := fun M a _ _ pc ins len _ nx k => decide (a < M.2.2.2.1) && match ins with
  | .istore i => decide (i = a) && decide (len = 2) && decide (nx (k + 1) = pc + 2)
  | .istore_n i => decide ((i : Nat) = a) && decide (len = 1) && decide (nx (k + 1) = pc + 1)
  | _ => false
theorem zs_istore : z_Sn zo_istore zk_istore := by
  intro p l e R s m args below meth c Z D tc adK adV sb sx M nx ad0 n0 C S d Q a b ci k ins len pl hF hK hA hR hd hck lo st h k' lo' st' h' x y hop kc ks hW
  unfold zo_istore at hop
  split at hop
  case h_2 => cases hop
  next v st2 =>
  obtain ⟨rfl, rfl, rfl, rfl, rfl, rfl⟩ := zn_inj hop
  obtain ⟨hx, hb, hml, hr, hown, hts, -⟩ := hF
  intro ad H locs ls cells slots q1 q2 q3 q4 q5 q6 q7 q8 q9
  have kk := fun ls hl => hW ad H locs ls cells slots q1 q2 q3 q4 hl (z_set1_ok q6 (z_okV_int _ _)) (z_okT q7) q8 q9
  unfold zk_istore at hck
  rw [Bool.and_eq_true] at hck
  obtain ⟨ha, hck⟩ := hck
  have ha := of_decide_eq_true ha
  split at hck
  all_goals (try simp only [Bool.and_eq_true, decide_eq_true_eq] at hck)
  · obtain ⟨⟨rfl, rfl⟩, hn⟩ := hck
    rw [hn] at kk
    exact lv_istore hx hb hd q5 ha (z_tl_set1 ad _ _ (.int v)) kk
  · obtain ⟨⟨h1, rfl⟩, hn⟩ := hck
    rw [hn] at kk
    exact lv_istore_n hx hb hd h1 q5 ha (z_tl_set1 ad _ _ (.int v)) kk
  · cases hck
noncomputable def zo_astore : zNop := fun _ _ a _ _ k l st h => match st with
  | .ref x :: st => zn (k + 1) (z_set1 l a (.ref x)) st h
  | _ => none
noncomputable def zk_astore : zCk := fun M a _ _ pc ins len _ nx k => decide (a < M.2.2.2.1) && match ins with
  | .astore i => decide (i = a) && decide (len = 2) && decide (nx (k + 1) = pc + 2)
  | .astore_n i => decide ((i : Nat) = a) && decide (len = 1) && decide (nx (k + 1) = pc + 1)
  | _ => false
theorem zs_astore : z_Sn zo_astore zk_astore := by
  intro p l e R s m args below meth c Z D tc adK adV sb sx M nx ad0 n0 C S d Q a b ci k ins len pl hF hK hA hR hd hck lo st h k' lo' st' h' x y hop kc ks hW
  unfold zo_astore at hop
  split at hop
  case h_2 => cases hop
  next v st2 =>
  obtain ⟨rfl, rfl, rfl, rfl, rfl, rfl⟩ := zn_inj hop
  obtain ⟨hx, hb, hml, hr, hown, hts, -⟩ := hF
  intro ad H locs ls cells slots q1 q2 q3 q4 q5 q6 q7 q8 q9
  have kk := fun ls hl => hW ad H locs ls cells slots q1 q2 q3 q4 hl (z_set1_ok q6 (z_ok1 q7)) (z_okT q7) q8 q9
  unfold zk_astore at hck
  rw [Bool.and_eq_true] at hck
  obtain ⟨ha, hck⟩ := hck
  have ha := of_decide_eq_true ha
  split at hck
  all_goals (try simp only [Bool.and_eq_true, decide_eq_true_eq] at hck)
  · obtain ⟨⟨rfl, rfl⟩, hn⟩ := hck
    rw [hn] at kk
    exact lv_astore hx hb hd q5 ha (z_tl_set1 ad _ _ (.ref v)) kk
  · obtain ⟨⟨h1, rfl⟩, hn⟩ := hck
    rw [hn] at kk
    exact lv_astore_n hx hb hd h1 q5 ha (z_tl_set1 ad _ _ (.ref v)) kk
  · cases hck
noncomputable def zo_lstore : zNop := fun _ _ a _ _ k l st h => match st with
  | .long x :: st => zn (k + 1) (z_set2 l a (.long x)) st h
  | _ => none
noncomputable def zk_lstore : zCk := fun M a _ _ pc ins len _ nx k => decide (a + 1 < M.2.2.2.1) && match ins with
  | .lstore i => decide (i = a) && decide (len = 2) && decide (nx (k + 1) = pc + 2)
  | .lstore_n i => decide ((i : Nat) = a) && decide (len = 1) && decide (nx (k + 1) = pc + 1)
  | _ => false
theorem zs_lstore : z_Sn zo_lstore zk_lstore := by
  intro p l e R s m args below meth c Z D tc adK adV sb sx M nx ad0 n0 C S d Q a b ci k ins len pl hF hK hA hR hd hck lo st h k' lo' st' h' x y hop kc ks hW
  unfold zo_lstore at hop
  split at hop
  case h_2 => cases hop
  next v st2 =>
  obtain ⟨rfl, rfl, rfl, rfl, rfl, rfl⟩ := zn_inj hop
  obtain ⟨hx, hb, hml, hr, hown, hts, -⟩ := hF
  intro ad H locs ls cells slots q1 q2 q3 q4 q5 q6 q7 q8 q9
  have kk := fun ls hl => hW ad H locs ls cells slots q1 q2 q3 q4 hl (z_set2_ok q6 (z_okV_long _ _)) (z_okT q7) q8 q9
  unfold zk_lstore at hck
  rw [Bool.and_eq_true] at hck
  obtain ⟨ha, hck⟩ := hck
  have ha := of_decide_eq_true ha
  split at hck
  all_goals (try simp only [Bool.and_eq_true, decide_eq_true_eq] at hck)
  · obtain ⟨⟨rfl, rfl⟩, hn⟩ := hck
    rw [hn] at kk
    exact lv_lstore hx hb hd q5 ha (z_tl_set2 ad _ _ (.long v)) kk
  · obtain ⟨⟨h1, rfl⟩, hn⟩ := hck
    rw [hn] at kk
    exact lv_lstore_n hx hb hd h1 q5 ha (z_tl_set2 ad _ _ (.long v)) kk
  · cases hck
noncomputable def zo_iinc : zNop := fun _ _ a _ c k l st h => match z_get l a with
  | some (.int x) => zn (k + 1) (z_set1 l a (.int (x + Int32.ofInt c))) st h
  | _ => none
noncomputable def zk_iinc : zCk := fun M a _ c pc ins len _ nx k => decide (a < M.2.2.2.1) && match ins with
  | .iinc i n => decide (i = a) && decide (n = c) && decide (len = 3) && decide (nx (k + 1) = pc + 3)
  | _ => false
theorem zs_iinc : z_Sn zo_iinc zk_iinc := by
  intro p l e R s m args below meth c Z D tc adK adV sb sx M nx ad0 n0 C S d Q a b ci k ins len pl hF hK hA hR hd hck lo st h k' lo' st' h' x y hop kc ks hW
  unfold zo_iinc at hop
  split at hop
  case h_2 => cases hop
  next v hg =>
  obtain ⟨rfl, rfl, rfl, rfl, rfl, rfl⟩ := zn_inj hop
  obtain ⟨hx, hb, hml, hr, hown, hts, -⟩ := hF
  intro ad H locs ls cells slots q1 q2 q3 q4 q5 q6 q7 q8 q9
  have kk := fun ls hl => hW ad H locs ls cells slots q1 q2 q3 q4 hl (z_set1_ok q6 (z_okV_int _ _)) q7 q8 q9
  have hm : (a, Value.int v) ∈ z_tl ad lo := List.mem_map.mpr ⟨(a, .int v), z_get_mem hg, rfl⟩
  obtain ⟨kk0, hk0⟩ := List.getElem?_of_mem hm
  unfold zk_iinc at hck
  rw [Bool.and_eq_true] at hck
  obtain ⟨ha, hck⟩ := hck
  have ha := of_decide_eq_true ha
  split at hck
  all_goals (try simp only [Bool.and_eq_true, decide_eq_true_eq] at hck)
  · obtain ⟨⟨⟨rfl, rfl⟩, rfl⟩, hn⟩ := hck
    rw [hn] at kk
    exact lv_iinc hx hb hd q5 hk0 rfl ha (z_tl_set1 ad _ _ (.int _)) kk
  · cases hck
end
section
noncomputable def zo_iadd : zNop := fun _ _ _ _ _ k l st h => match st with
  | .int y :: .int x :: st => zn (k + 1) l (.int (x + y) :: st) h
  | _ => none
noncomputable def zk_iadd : zCk := fun _ _ _ _ pc ins len _ nx k => match ins with
  | .iadd => decide (len = 1) && decide (nx (k + 1) = pc + 1)
  | _ => false
theorem zs_iadd : z_Sn zo_iadd zk_iadd := by
  intro p l e R s m args below meth c Z D tc adK adV sb sx M nx ad0 n0 C S d Q a b ci k ins len pl hF hK hA hR hd hck lo st h k' lo' st' h' x y hop kc ks hW
  unfold zo_iadd at hop
  split at hop
  case h_2 => cases hop
  next vy vx st2 =>
  obtain ⟨rfl, rfl, rfl, rfl, rfl, rfl⟩ := zn_inj hop
  obtain ⟨hx, hb, hml, hr, hown, hts, -⟩ := hF
  intro ad H locs ls cells slots q1 q2 q3 q4 q5 q6 q7 q8 q9
  have kk := hW ad H locs ls cells slots q1 q2 q3 q4 q5 q6 (z_okC (z_okV_int _ _) (z_okT (z_okT q7))) q8 q9
  unfold zk_iadd at hck
  split at hck
  all_goals (try simp only [Bool.and_eq_true, decide_eq_true_eq] at hck)
  · obtain ⟨rfl, hn⟩ := hck
    rw [hn] at kk
    exact lv_iadd hx hb hd kk
  · cases hck
noncomputable def zo_isub : zNop := fun _ _ _ _ _ k l st h => match st with
  | .int y :: .int x :: st => zn (k + 1) l (.int (x - y) :: st) h
  | _ => none
noncomputable def zk_isub : zCk := fun _ _ _ _ pc ins len _ nx k => match ins with
  | .isub => decide (len = 1) && decide (nx (k + 1) = pc + 1)
  | _ => false
theorem zs_isub : z_Sn zo_isub zk_isub := by
  intro p l e R s m args below meth c Z D tc adK adV sb sx M nx ad0 n0 C S d Q a b ci k ins len pl hF hK hA hR hd hck lo st h k' lo' st' h' x y hop kc ks hW
  unfold zo_isub at hop
  split at hop
  case h_2 => cases hop
  next vy vx st2 =>
  obtain ⟨rfl, rfl, rfl, rfl, rfl, rfl⟩ := zn_inj hop
  obtain ⟨hx, hb, hml, hr, hown, hts, -⟩ := hF
  intro ad H locs ls cells slots q1 q2 q3 q4 q5 q6 q7 q8 q9
  have kk := hW ad H locs ls cells slots q1 q2 q3 q4 q5 q6 (z_okC (z_okV_int _ _) (z_okT (z_okT q7))) q8 q9
  unfold zk_isub at hck
  split at hck
  all_goals (try simp only [Bool.and_eq_true, decide_eq_true_eq] at hck)
  · obtain ⟨rfl, hn⟩ := hck
    rw [hn] at kk
    exact lv_isub hx hb hd kk
  · cases hck
noncomputable def zo_imul : zNop := fun _ _ _ _ _ k l st h => match st with
  | .int y :: .int x :: st => zn (k + 1) l (.int (x * y) :: st) h
  | _ => none
noncomputable def zk_imul : zCk := fun _ _ _ _ pc ins len _ nx k => match ins with
  | .imul => decide (len = 1) && decide (nx (k + 1) = pc + 1)
  | _ => false
theorem zs_imul : z_Sn zo_imul zk_imul := by
  intro p l e R s m args below meth c Z D tc adK adV sb sx M nx ad0 n0 C S d Q a b ci k ins len pl hF hK hA hR hd hck lo st h k' lo' st' h' x y hop kc ks hW
  unfold zo_imul at hop
  split at hop
  case h_2 => cases hop
  next vy vx st2 =>
  obtain ⟨rfl, rfl, rfl, rfl, rfl, rfl⟩ := zn_inj hop
  obtain ⟨hx, hb, hml, hr, hown, hts, -⟩ := hF
  intro ad H locs ls cells slots q1 q2 q3 q4 q5 q6 q7 q8 q9
  have kk := hW ad H locs ls cells slots q1 q2 q3 q4 q5 q6 (z_okC (z_okV_int _ _) (z_okT (z_okT q7))) q8 q9
  unfold zk_imul at hck
  split at hck
  all_goals (try simp only [Bool.and_eq_true, decide_eq_true_eq] at hck)
  · obtain ⟨rfl, hn⟩ := hck
    rw [hn] at kk
    exact lv_imul hx hb hd kk
  · cases hck
noncomputable def zo_idiv : zNop := fun _ _ _ _ _ k l st h => match st with
  | .int y :: .int x :: st => if y = 0 then none else zn (k + 1) l (.int (x / y) :: st) h
  | _ => none
noncomputable def zk_idiv : zCk := fun _ _ _ _ pc ins len _ nx k => match ins with
  | .idiv => decide (len = 1) && decide (nx (k + 1) = pc + 1)
  | _ => false
theorem zs_idiv : z_Sn zo_idiv zk_idiv := by
  intro p l e R s m args below meth c Z D tc adK adV sb sx M nx ad0 n0 C S d Q a b ci k ins len pl hF hK hA hR hd hck lo st h k' lo' st' h' x y hop kc ks hW
  unfold zo_idiv at hop
  split at hop
  case h_2 => cases hop
  next vy vx st2 =>
  by_cases hne : vy = 0
  · rw [if_pos hne] at hop; cases hop
  rw [if_neg hne] at hop
  obtain ⟨rfl, rfl, rfl, rfl, rfl, rfl⟩ := zn_inj hop
  obtain ⟨hx, hb, hml, hr, hown, hts, -⟩ := hF
  intro ad H locs ls cells slots q1 q2 q3 q4 q5 q6 q7 q8 q9
  have kk := hW ad H locs ls cells slots q1 q2 q3 q4 q5 q6 (z_okC (z_okV_int _ _) (z_okT (z_okT q7))) q8 q9
  unfold zk_idiv at hck
  split at hck
  all_goals (try simp only [Bool.and_eq_true, decide_eq_true_eq] at hck)
  · obtain ⟨rfl, hn⟩ := hck
    rw [hn] at kk
    exact lv_idiv hx hb hd hne kk
  · cases hck
noncomputable def zo_irem : zNop := fun _ _ _ _ _ k l st h => match st with
  | .int y :: .int x :: st => if y = 0 then none else zn (k + 1) l (.int (x - x / y * y) :: st) h
  | _ => none
noncomputable def zk_irem : zCk := fun _ _ _ _ pc ins len _ nx k => match ins with
  | .irem => decide (len = 1) && decide (nx (k + 1) = pc + 1)
  | _ => false
theorem zs_irem : z_Sn zo_irem zk_irem := by
  intro p l e R s m args below meth c Z D tc adK adV sb sx M nx ad0 n0 C S d Q a b ci k ins len pl hF hK hA hR hd hck lo st h k' lo' st' h' x y hop kc ks hW
  unfold zo_irem at hop
  split at hop
  case h_2 => cases hop
  next vy vx st2 =>
  by_cases hne : vy = 0
  · rw [if_pos hne] at hop; cases hop
  rw [if_neg hne] at hop
  obtain ⟨rfl, rfl, rfl, rfl, rfl, rfl⟩ := zn_inj hop
  obtain ⟨hx, hb, hml, hr, hown, hts, -⟩ := hF
  intro ad H locs ls cells slots q1 q2 q3 q4 q5 q6 q7 q8 q9
  have kk := hW ad H locs ls cells slots q1 q2 q3 q4 q5 q6 (z_okC (z_okV_int _ _) (z_okT (z_okT q7))) q8 q9
  unfold zk_irem at hck
  split at hck
  all_goals (try simp only [Bool.and_eq_true, decide_eq_true_eq] at hck)
  · obtain ⟨rfl, hn⟩ := hck
    rw [hn] at kk
    exact lv_irem hx hb hd hne kk
  · cases hck
noncomputable def zo_ishl : zNop := fun _ _ _ _ _ k l st h => match st with
  | .int y :: .int x :: st => zn (k + 1) l (.int (x <<< (y &&& 31)) :: st) h
  | _ => none
noncomputable def zk_ishl : zCk := fun _ _ _ _ pc ins len _ nx k => match ins with
  | .ishl => decide (len = 1) && decide (nx (k + 1) = pc + 1)
  | _ => false
theorem zs_ishl : z_Sn zo_ishl zk_ishl := by
  intro p l e R s m args below meth c Z D tc adK adV sb sx M nx ad0 n0 C S d Q a b ci k ins len pl hF hK hA hR hd hck lo st h k' lo' st' h' x y hop kc ks hW
  unfold zo_ishl at hop
  split at hop
  case h_2 => cases hop
  next vy vx st2 =>
  obtain ⟨rfl, rfl, rfl, rfl, rfl, rfl⟩ := zn_inj hop
  obtain ⟨hx, hb, hml, hr, hown, hts, -⟩ := hF
  intro ad H locs ls cells slots q1 q2 q3 q4 q5 q6 q7 q8 q9
  have kk := hW ad H locs ls cells slots q1 q2 q3 q4 q5 q6 (z_okC (z_okV_int _ _) (z_okT (z_okT q7))) q8 q9
  unfold zk_ishl at hck
  split at hck
  all_goals (try simp only [Bool.and_eq_true, decide_eq_true_eq] at hck)
  · obtain ⟨rfl, hn⟩ := hck
    rw [hn] at kk
    exact lv_ishl hx hb hd kk
  · cases hck
noncomputable def zo_ishr : zNop := fun _ _ _ _ _ k l st h => match st with
  | .int y :: .int x :: st => zn (k + 1) l (.int (x >>> (y &&& 31)) :: st) h
  | _ => none
noncomputable def zk_ishr : zCk := fun _ _ _ _ pc ins len _ nx k => match ins with
  | .ishr => decide (len = 1) && decide (nx (k + 1) = pc + 1)
  | _ => false
theorem zs_ishr : z_Sn zo_ishr zk_ishr := by
  intro p l e R s m args below meth c Z D tc adK adV sb sx M nx ad0 n0 C S d Q a b ci k ins len pl hF hK hA hR hd hck lo st h k' lo' st' h' x y hop kc ks hW
  unfold zo_ishr at hop
  split at hop
  case h_2 => cases hop
  next vy vx st2 =>
  obtain ⟨rfl, rfl, rfl, rfl, rfl, rfl⟩ := zn_inj hop
  obtain ⟨hx, hb, hml, hr, hown, hts, -⟩ := hF
  intro ad H locs ls cells slots q1 q2 q3 q4 q5 q6 q7 q8 q9
  have kk := hW ad H locs ls cells slots q1 q2 q3 q4 q5 q6 (z_okC (z_okV_int _ _) (z_okT (z_okT q7))) q8 q9
  unfold zk_ishr at hck
  split at hck
  all_goals (try simp only [Bool.and_eq_true, decide_eq_true_eq] at hck)
  · obtain ⟨rfl, hn⟩ := hck
    rw [hn] at kk
    exact lv_ishr hx hb hd kk
  · cases hck
noncomputable def zo_iushr : zNop := fun _ _ _ _ _ k l st h => match st with
  | .int y :: .int x :: st => zn (k + 1) l (.int ((x.toUInt32 >>> (y.toUInt32 &&& Int32.toUInt32 31)).toInt32) :: st) h
  | _ => none
noncomputable def zk_iushr : zCk := fun _ _ _ _ pc ins len _ nx k => match ins with
  | .iushr => decide (len = 1) && decide (nx (k + 1) = pc + 1)
  | _ => false
theorem zs_iushr : z_Sn zo_iushr zk_iushr := by
  intro p l e R s m args below meth c Z D tc adK adV sb sx M nx ad0 n0 C S d Q a b ci k ins len pl hF hK hA hR hd hck lo st h k' lo' st' h' x y hop kc ks hW
  unfold zo_iushr at hop
  split at hop
  case h_2 => cases hop
  next vy vx st2 =>
  obtain ⟨rfl, rfl, rfl, rfl, rfl, rfl⟩ := zn_inj hop
  obtain ⟨hx, hb, hml, hr, hown, hts, -⟩ := hF
  intro ad H locs ls cells slots q1 q2 q3 q4 q5 q6 q7 q8 q9
  have kk := hW ad H locs ls cells slots q1 q2 q3 q4 q5 q6 (z_okC (z_okV_int _ _) (z_okT (z_okT q7))) q8 q9
  unfold zk_iushr at hck
  split at hck
  all_goals (try simp only [Bool.and_eq_true, decide_eq_true_eq] at hck)
  · obtain ⟨rfl, hn⟩ := hck
    rw [hn] at kk
    exact lv_iushr hx hb hd rfl kk
  · cases hck
noncomputable def zo_iand : zNop := fun _ _ _ _ _ k l st h => match st with
  | .int y :: .int x :: st => zn (k + 1) l (.int (x &&& y) :: st) h
  | _ => none
noncomputable def zk_iand : zCk := fun _ _ _ _ pc ins len _ nx k => match ins with
  | .iand => decide (len = 1) && decide (nx (k + 1) = pc + 1)
  | _ => false
theorem zs_iand : z_Sn zo_iand zk_iand := by
  intro p l e R s m args below meth c Z D tc adK adV sb sx M nx ad0 n0 C S d Q a b ci k ins len pl hF hK hA hR hd hck lo st h k' lo' st' h' x y hop kc ks hW
  unfold zo_iand at hop
  split at hop
  case h_2 => cases hop
  next vy vx st2 =>
  obtain ⟨rfl, rfl, rfl, rfl, rfl, rfl⟩ := zn_inj hop
  obtain ⟨hx, hb, hml, hr, hown, hts, -⟩ := hF
  intro ad H locs ls cells slots q1 q2 q3 q4 q5 q6 q7 q8 q9
  have kk := hW ad H locs ls cells slots q1 q2 q3 q4 q5 q6 (z_okC (z_okV_int _ _) (z_okT (z_okT q7))) q8 q9
  unfold zk_iand at hck
  split at hck
  all_goals (try simp only [Bool.and_eq_true, decide_eq_true_eq] at hck)
  · obtain ⟨rfl, hn⟩ := hck
    rw [hn] at kk
    exact lv_iand hx hb hd kk
  · cases hck
noncomputable def zo_ior : zNop := fun _ _ _ _ _ k l st h => match st with
  | .int y :: .int x :: st => zn (k + 1) l (.int (x ||| y) :: st) h
  | _ => none
noncomputable def zk_ior : zCk := fun _ _ _ _ pc ins len _ nx k => match ins with
  | .ior => decide (len = 1) && decide (nx (k + 1) = pc + 1)
  | _ => false
theorem zs_ior : z_Sn zo_ior zk_ior := by
  intro p l e R s m args below meth c Z D tc adK adV sb sx M nx ad0 n0 C S d Q a b ci k ins len pl hF hK hA hR hd hck lo st h k' lo' st' h' x y hop kc ks hW
  unfold zo_ior at hop
  split at hop
  case h_2 => cases hop
  next vy vx st2 =>
  obtain ⟨rfl, rfl, rfl, rfl, rfl, rfl⟩ := zn_inj hop
  obtain ⟨hx, hb, hml, hr, hown, hts, -⟩ := hF
  intro ad H locs ls cells slots q1 q2 q3 q4 q5 q6 q7 q8 q9
  have kk := hW ad H locs ls cells slots q1 q2 q3 q4 q5 q6 (z_okC (z_okV_int _ _) (z_okT (z_okT q7))) q8 q9
  unfold zk_ior at hck
  split at hck
  all_goals (try simp only [Bool.and_eq_true, decide_eq_true_eq] at hck)
  · obtain ⟨rfl, hn⟩ := hck
    rw [hn] at kk
    exact lv_ior hx hb hd kk
  · cases hck
noncomputable def zo_ixor : zNop := fun _ _ _ _ _ k l st h => match st with
  | .int y :: .int x :: st => zn (k + 1) l (.int (x ^^^ y) :: st) h
  | _ => none
noncomputable def zk_ixor : zCk := fun _ _ _ _ pc ins len _ nx k => match ins with
  | .ixor => decide (len = 1) && decide (nx (k + 1) = pc + 1)
  | _ => false
theorem zs_ixor : z_Sn zo_ixor zk_ixor := by
  intro p l e R s m args below meth c Z D tc adK adV sb sx M nx ad0 n0 C S d Q a b ci k ins len pl hF hK hA hR hd hck lo st h k' lo' st' h' x y hop kc ks hW
  unfold zo_ixor at hop
  split at hop
  case h_2 => cases hop
  next vy vx st2 =>
  obtain ⟨rfl, rfl, rfl, rfl, rfl, rfl⟩ := zn_inj hop
  obtain ⟨hx, hb, hml, hr, hown, hts, -⟩ := hF
  intro ad H locs ls cells slots q1 q2 q3 q4 q5 q6 q7 q8 q9
  have kk := hW ad H locs ls cells slots q1 q2 q3 q4 q5 q6 (z_okC (z_okV_int _ _) (z_okT (z_okT q7))) q8 q9
  unfold zk_ixor at hck
  split at hck
  all_goals (try simp only [Bool.and_eq_true, decide_eq_true_eq] at hck)
  · obtain ⟨rfl, hn⟩ := hck
    rw [hn] at kk
    exact lv_ixor hx hb hd kk
  · cases hck
noncomputable def zo_ladd : zNop := fun _ _ _ _ _ k l st h => match st with
  | .long y :: .long x :: st => zn (k + 1) l (.long (x + y) :: st) h
  | _ => none
noncomputable def zk_ladd : zCk := fun _ _ _ _ pc ins len _ nx k => match ins with
  | .ladd => decide (len = 1) && decide (nx (k + 1) = pc + 1)
  | _ => false
theorem zs_ladd : z_Sn zo_ladd zk_ladd := by
  intro p l e R s m args below meth c Z D tc adK adV sb sx M nx ad0 n0 C S d Q a b ci k ins len pl hF hK hA hR hd hck lo st h k' lo' st' h' x y hop kc ks hW
  unfold zo_ladd at hop
  split at hop
  case h_2 => cases hop
  next vy vx st2 =>
  obtain ⟨rfl, rfl, rfl, rfl, rfl, rfl⟩ := zn_inj hop
  obtain ⟨hx, hb, hml, hr, hown, hts, -⟩ := hF
  intro ad H locs ls cells slots q1 q2 q3 q4 q5 q6 q7 q8 q9
  have kk := hW ad H locs ls cells slots q1 q2 q3 q4 q5 q6 (z_okC (z_okV_long _ _) (z_okT (z_okT q7))) q8 q9
  unfold zk_ladd at hck
  split at hck
  all_goals (try simp only [Bool.and_eq_true, decide_eq_true_eq] at hck)
  · obtain ⟨rfl, hn⟩ := hck
    rw [hn] at kk
    exact lv_ladd hx hb hd kk
  · cases hck
noncomputable def zo_lmul : zNop := fun _ _ _ _ _ k l st h => match st with
  | .long y :: .long x :: st => zn (k + 1) l (.long (x * y) :: st) h
  | _ => none
noncomputable def zk_lmul : zCk := fun _ _ _ _ pc ins len _ nx k => match ins with
  | .lmul => decide (len = 1) && decide (nx (k + 1) = pc + 1)
  | _ => false
theorem zs_lmul : z_Sn zo_lmul zk_lmul := by
  intro p l e R s m args below meth c Z D tc adK adV sb sx M nx ad0 n0 C S d Q a b ci k ins len pl hF hK hA hR hd hck lo st h k' lo' st' h' x y hop kc ks hW
  unfold zo_lmul at hop
  split at hop
  case h_2 => cases hop
  next vy vx st2 =>
  obtain ⟨rfl, rfl, rfl, rfl, rfl, rfl⟩ := zn_inj hop
  obtain ⟨hx, hb, hml, hr, hown, hts, -⟩ := hF
  intro ad H locs ls cells slots q1 q2 q3 q4 q5 q6 q7 q8 q9
  have kk := hW ad H locs ls cells slots q1 q2 q3 q4 q5 q6 (z_okC (z_okV_long _ _) (z_okT (z_okT q7))) q8 q9
  unfold zk_lmul at hck
  split at hck
  all_goals (try simp only [Bool.and_eq_true, decide_eq_true_eq] at hck)
  · obtain ⟨rfl, hn⟩ := hck
    rw [hn] at kk
    exact lv_lmul hx hb hd kk
  · cases hck
noncomputable def zo_ldiv : zNop := fun _ _ _ _ _ k l st h => match st with
  | .long y :: .long x :: st => if y = 0 then none else zn (k + 1) l (.long (x / y) :: st) h
  | _ => none
noncomputable def zk_ldiv : zCk := fun _ _ _ _ pc ins len _ nx k => match ins with
  | .ldiv => decide (len = 1) && decide (nx (k + 1) = pc + 1)
  | _ => false
theorem zs_ldiv : z_Sn zo_ldiv zk_ldiv := by
  intro p l e R s m args below meth c Z D tc adK adV sb sx M nx ad0 n0 C S d Q a b ci k ins len pl hF hK hA hR hd hck lo st h k' lo' st' h' x y hop kc ks hW
  unfold zo_ldiv at hop
  split at hop
  case h_2 => cases hop
  next vy vx st2 =>
  by_cases hne : vy = 0
  · rw [if_pos hne] at hop; cases hop
  rw [if_neg hne] at hop
  obtain ⟨rfl, rfl, rfl, rfl, rfl, rfl⟩ := zn_inj hop
  obtain ⟨hx, hb, hml, hr, hown, hts, -⟩ := hF
  intro ad H locs ls cells slots q1 q2 q3 q4 q5 q6 q7 q8 q9
  have kk := hW ad H locs ls cells slots q1 q2 q3 q4 q5 q6 (z_okC (z_okV_long _ _) (z_okT (z_okT q7))) q8 q9
  unfold zk_ldiv at hck
  split at hck
  all_goals (try simp only [Bool.and_eq_true, decide_eq_true_eq] at hck)
  · obtain ⟨rfl, hn⟩ := hck
    rw [hn] at kk
    exact lv_ldiv hx hb hd hne kk
  · cases hck
noncomputable def zo_lcmp : zNop := fun _ _ _ _ _ k l st h => match st with
  | .long y :: .long x :: st => zn (k + 1) l (.int (lg_cmp x y) :: st) h
  | _ => none
noncomputable def zk_lcmp : zCk := fun _ _ _ _ pc ins len _ nx k => match ins with
  | .lcmp => decide (len = 1) && decide (nx (k + 1) = pc + 1)
  | _ => false
theorem zs_lcmp : z_Sn zo_lcmp zk_lcmp := by
  intro p l e R s m args below meth c Z D tc adK adV sb sx M nx ad0 n0 C S d Q a b ci k ins len pl hF hK hA hR hd hck lo st h k' lo' st' h' x y hop kc ks hW
  unfold zo_lcmp at hop
  split at hop
  case h_2 => cases hop
  next vy vx st2 =>
  obtain ⟨rfl, rfl, rfl, rfl, rfl, rfl⟩ := zn_inj hop
  obtain ⟨hx, hb, hml, hr, hown, hts, -⟩ := hF
  intro ad H locs ls cells slots q1 q2 q3 q4 q5 q6 q7 q8 q9
  have kk := hW ad H locs ls cells slots q1 q2 q3 q4 q5 q6 (z_okC (z_okV_int _ _) (z_okT (z_okT q7))) q8 q9
  unfold zk_lcmp at hck
  split at hck
  all_goals (try simp only [Bool.and_eq_true, decide_eq_true_eq] at hck)
  · obtain ⟨rfl, hn⟩ := hck
    rw [hn] at kk
    exact W.lcmp hx hb hd kk
  · cases hck
noncomputable def zo_i2l : zNop := fun _ _ _ _ _ k l st h => match st with
  | .int x :: st => zn (k + 1) l (.long (x.toInt64) :: st) h
  | _ => none
noncomputable def zk_i2l : zCk := fun _ _ _ _ pc ins len _ nx k => match ins with
  | .i2l => decide (len = 1) && decide (nx (k + 1) = pc + 1)
  | _ => false
theorem zs_i2l : z_Sn zo_i2l zk_i2l := by
  intro p l e R s m args below meth c Z D tc adK adV sb sx M nx ad0 n0 C S d Q a b ci k ins len pl hF hK hA hR hd hck lo st h k' lo' st' h' x y hop kc ks hW
  unfold zo_i2l at hop
  split at hop
  case h_2 => cases hop
  next vx st2 =>
  obtain ⟨rfl, rfl, rfl, rfl, rfl, rfl⟩ := zn_inj hop
  obtain ⟨hx, hb, hml, hr, hown, hts, -⟩ := hF
  intro ad H locs ls cells slots q1 q2 q3 q4 q5 q6 q7 q8 q9
  have kk := hW ad H locs ls cells slots q1 q2 q3 q4 q5 q6 (z_okC (z_okV_long _ _) (z_okT q7)) q8 q9
  unfold zk_i2l at hck
  split at hck
  all_goals (try simp only [Bool.and_eq_true, decide_eq_true_eq] at hck)
  · obtain ⟨rfl, hn⟩ := hck
    rw [hn] at kk
    exact lv_i2l hx hb hd rfl kk
  · cases hck
noncomputable def zo_l2i : zNop := fun _ _ _ _ _ k l st h => match st with
  | .long x :: st => zn (k + 1) l (.int (x.toInt32) :: st) h
  | _ => none
noncomputable def zk_l2i : zCk := fun _ _ _ _ pc ins len _ nx k => match ins with
  | .l2i => decide (len = 1) && decide (nx (k + 1) = pc + 1)
  | _ => false
theorem zs_l2i : z_Sn zo_l2i zk_l2i := by
  intro p l e R s m args below meth c Z D tc adK adV sb sx M nx ad0 n0 C S d Q a b ci k ins len pl hF hK hA hR hd hck lo st h k' lo' st' h' x y hop kc ks hW
  unfold zo_l2i at hop
  split at hop
  case h_2 => cases hop
  next vx st2 =>
  obtain ⟨rfl, rfl, rfl, rfl, rfl, rfl⟩ := zn_inj hop
  obtain ⟨hx, hb, hml, hr, hown, hts, -⟩ := hF
  intro ad H locs ls cells slots q1 q2 q3 q4 q5 q6 q7 q8 q9
  have kk := hW ad H locs ls cells slots q1 q2 q3 q4 q5 q6 (z_okC (z_okV_int _ _) (z_okT q7)) q8 q9
  unfold zk_l2i at hck
  split at hck
  all_goals (try simp only [Bool.and_eq_true, decide_eq_true_eq] at hck)
  · obtain ⟨rfl, hn⟩ := hck
    rw [hn] at kk
    exact lv_l2i hx hb hd rfl kk
  · cases hck
noncomputable def zo_i2b : zNop := fun _ _ _ _ _ k l st h => match st with
  | .int x :: st => zn (k + 1) l (.int (x.toInt8.toInt32) :: st) h
  | _ => none
noncomputable def zk_i2b : zCk := fun _ _ _ _ pc ins len _ nx k => match ins with
  | .i2b => decide (len = 1) && decide (nx (k + 1) = pc + 1)
  | _ => false
theorem zs_i2b : z_Sn zo_i2b zk_i2b := by
  intro p l e R s m args below meth c Z D tc adK adV sb sx M nx ad0 n0 C S d Q a b ci k ins len pl hF hK hA hR hd hck lo st h k' lo' st' h' x y hop kc ks hW
  unfold zo_i2b at hop
  split at hop
  case h_2 => cases hop
  next vx st2 =>
  obtain ⟨rfl, rfl, rfl, rfl, rfl, rfl⟩ := zn_inj hop
  obtain ⟨hx, hb, hml, hr, hown, hts, -⟩ := hF
  intro ad H locs ls cells slots q1 q2 q3 q4 q5 q6 q7 q8 q9
  have kk := hW ad H locs ls cells slots q1 q2 q3 q4 q5 q6 (z_okC (z_okV_int _ _) (z_okT q7)) q8 q9
  unfold zk_i2b at hck
  split at hck
  all_goals (try simp only [Bool.and_eq_true, decide_eq_true_eq] at hck)
  · obtain ⟨rfl, hn⟩ := hck
    rw [hn] at kk
    exact lv_i2b hx hb hd rfl kk
  · cases hck
noncomputable def zo_lconst : zNop := fun _ _ _ _ c k l st h => zn (k + 1) l (.long (Int64.ofInt c) :: st) h
noncomputable def zk_lconst : zCk := fun M _ _ c pc ins len pl nx k => match ins with
  | .lconst n => decide (Int64.ofNat (n : Nat) = Int64.ofInt c) && decide (len = 1) && decide (nx (k + 1) = pc + 1)
  | .ldc2_w i => z_w (.constantLong M.1 i (Int64.ofInt c)) (pl.getD 0 0) && decide (len = 3) && decide (nx (k + 1) = pc + 3)
  | _ => false
theorem zs_lconst : z_Sn zo_lconst zk_lconst := by
  intro p l e R s m args below meth c Z D tc adK adV sb sx M nx ad0 n0 C S d Q a b ci k ins len pl hF hK hA hR hd hck lo st h k' lo' st' h' x y hop kc ks hW
  obtain ⟨rfl, rfl, rfl, rfl, rfl, rfl⟩ := zn_inj hop
  obtain ⟨hx, hb, hml, hr, hown, hts, -⟩ := hF
  intro ad H locs ls cells slots q1 q2 q3 q4 q5 q6 q7 q8 q9
  have kk := hW ad H locs ls cells slots q1 q2 q3 q4 q5 q6 (z_okC (z_okV_long _ _) q7) q8 q9
  unfold zk_lconst at hck
  split at hck
  all_goals (try simp only [Bool.and_eq_true, decide_eq_true_eq] at hck)
  · obtain ⟨⟨h1, rfl⟩, hn⟩ := hck
    rw [hn] at kk
    exact lv_lconst hx hb hd h1 kk
  · obtain ⟨⟨h1, rfl⟩, hn⟩ := hck
    rw [hn] at kk
    exact lv_ldc2 hx hb hown (hts _ (z_w_in h1)) hd kk
  · cases hck
noncomputable def zo_dup : zNop := fun _ _ _ _ _ k l st h => match st with
  | v :: st => if v.category = 1 then zn (k + 1) l (v :: v :: st) h else none
  | _ => none
noncomputable def zk_dup : zCk := fun _ _ _ _ pc ins len _ nx k => match ins with
  | .dup => decide (len = 1) && decide (nx (k + 1) = pc + 1)
  | _ => false
theorem zs_dup : z_Sn zo_dup zk_dup := by
  intro p l e R s m args below meth c Z D tc adK adV sb sx M nx ad0 n0 C S d Q a b ci k ins len pl hF hK hA hR hd hck lo st h k' lo' st' h' x y hop kc ks hW
  unfold zo_dup at hop
  split at hop
  case h_2 => cases hop
  next v st2 =>
  by_cases hc : v.category = 1
  case neg => rw [if_neg hc] at hop; cases hop
  rw [if_pos hc] at hop
  obtain ⟨rfl, rfl, rfl, rfl, rfl, rfl⟩ := zn_inj hop
  obtain ⟨hx, hb, hml, hr, hown, hts, -⟩ := hF
  intro ad H locs ls cells slots q1 q2 q3 q4 q5 q6 q7 q8 q9
  have kk := hW ad H locs ls cells slots q1 q2 q3 q4 q5 q6 (z_okC (z_ok1 q7) q7) q8 q9
  unfold zk_dup at hck
  split at hck
  all_goals (try simp only [Bool.and_eq_true, decide_eq_true_eq] at hck)
  · obtain ⟨rfl, hn⟩ := hck
    rw [hn] at kk
    exact lv_dup hx hb hd (by rw [z_tr_cat]; exact hc) kk
  · cases hck
noncomputable def zo_dup2 : zNop := fun _ _ _ _ _ k l st h => match st with
  | v :: w :: st => if v.category = 1 ∧ w.category = 1 then zn (k + 1) l (v :: w :: v :: w :: st) h else none
  | _ => none
noncomputable def zk_dup2 : zCk := fun _ _ _ _ pc ins len _ nx k => match ins with
  | .dup2 => decide (len = 1) && decide (nx (k + 1) = pc + 1)
  | _ => false
theorem zs_dup2 : z_Sn zo_dup2 zk_dup2 := by
  intro p l e R s m args below meth c Z D tc adK adV sb sx M nx ad0 n0 C S d Q a b ci k ins len pl hF hK hA hR hd hck lo st h k' lo' st' h' x y hop kc ks hW
  unfold zo_dup2 at hop
  split at hop
  case h_2 => cases hop
  next v w st2 =>
  by_cases hc : v.category = 1 ∧ w.category = 1
  case neg => rw [if_neg hc] at hop; cases hop
  rw [if_pos hc] at hop
  obtain ⟨rfl, rfl, rfl, rfl, rfl, rfl⟩ := zn_inj hop
  obtain ⟨hx, hb, hml, hr, hown, hts, -⟩ := hF
  intro ad H locs ls cells slots q1 q2 q3 q4 q5 q6 q7 q8 q9
  have kk := hW ad H locs ls cells slots q1 q2 q3 q4 q5 q6 (z_okC (z_ok1 q7) (z_okC (z_ok1 (z_okT q7)) q7)) q8 q9
  unfold zk_dup2 at hck
  split at hck
  all_goals (try simp only [Bool.and_eq_true, decide_eq_true_eq] at hck)
  · obtain ⟨rfl, hn⟩ := hck
    rw [hn] at kk
    exact lv_dup2_11 hx hb hd (by rw [z_tr_cat]; exact hc.1) (by rw [z_tr_cat]; exact hc.2) kk
  · cases hck
noncomputable def zo_pop : zNop := fun _ _ _ _ _ k l st h => match st with
  | v :: st => if v.category = 1 then zn (k + 1) l st h else none
  | _ => none
noncomputable def zk_pop : zCk := fun _ _ _ _ pc ins len _ nx k => match ins with
  | .pop => decide (len = 1) && decide (nx (k + 1) = pc + 1)
  | _ => false
theorem zs_pop : z_Sn zo_pop zk_pop := by
  intro p l e R s m args below meth c Z D tc adK adV sb sx M nx ad0 n0 C S d Q a b ci k ins len pl hF hK hA hR hd hck lo st h k' lo' st' h' x y hop kc ks hW
  unfold zo_pop at hop
  split at hop
  case h_2 => cases hop
  next v st2 =>
  by_cases hc : v.category = 1
  case neg => rw [if_neg hc] at hop; cases hop
  rw [if_pos hc] at hop
  obtain ⟨rfl, rfl, rfl, rfl, rfl, rfl⟩ := zn_inj hop
  obtain ⟨hx, hb, hml, hr, hown, hts, -⟩ := hF
  intro ad H locs ls cells slots q1 q2 q3 q4 q5 q6 q7 q8 q9
  have kk := hW ad H locs ls cells slots q1 q2 q3 q4 q5 q6 (z_okT q7) q8 q9
  unfold zk_pop at hck
  split at hck
  all_goals (try simp only [Bool.and_eq_true, decide_eq_true_eq] at hck)
  · obtain ⟨rfl, hn⟩ := hck
    rw [hn] at kk
    exact lv_pop hx hb hd (by rw [z_tr_cat]; exact hc) kk
  · cases hck
noncomputable def zo_null : zNop := fun _ _ _ _ _ k l st h => zn (k + 1) l (.null :: st) h
noncomputable def zk_null : zCk := fun _ _ _ _ pc ins len _ nx k => match ins with
  | .aconst_null => decide (len = 1) && decide (nx (k + 1) = pc + 1)
  | _ => false
theorem zs_null : z_Sn zo_null zk_null := by
  intro p l e R s m args below meth c Z D tc adK adV sb sx M nx ad0 n0 C S d Q a b ci k ins len pl hF hK hA hR hd hck lo st h k' lo' st' h' x y hop kc ks hW
  obtain ⟨rfl, rfl, rfl, rfl, rfl, rfl⟩ := zn_inj hop
  obtain ⟨hx, hb, hml, hr, hown, hts, -⟩ := hF
  intro ad H locs ls cells slots q1 q2 q3 q4 q5 q6 q7 q8 q9
  have kk := hW ad H locs ls cells slots q1 q2 q3 q4 q5 q6 (z_okC (z_okV_null _) q7) q8 q9
  unfold zk_null at hck
  split at hck
  all_goals (try simp only [Bool.and_eq_true, decide_eq_true_eq] at hck)
  · obtain ⟨rfl, hn⟩ := hck
    rw [hn] at kk
    exact lv_null hx hb hd kk
  · cases hck
noncomputable def zo_goto : zNop := fun _ _ a _ _ _ l st h => zn a l st h
noncomputable def zk_goto : zCk := fun _ a _ _ pc ins len _ nx _ => match ins with
  | .goto off => decide ((pc : Int) + off = (nx a : Int)) && decide (len = 3)
  | _ => false
theorem zs_goto : z_Sn zo_goto zk_goto := by
  intro p l e R s m args below meth c Z D tc adK adV sb sx M nx ad0 n0 C S d Q a b ci k ins len pl hF hK hA hR hd hck lo st h k' lo' st' h' x y hop kc ks hW
  obtain ⟨rfl, rfl, rfl, rfl, rfl, rfl⟩ := zn_inj hop
  obtain ⟨hx, hb, hml, hr, hown, hts, -⟩ := hF
  intro ad H locs ls cells slots q1 q2 q3 q4 q5 q6 q7 q8 q9
  have kk := hW ad H locs ls cells slots q1 q2 q3 q4 q5 q6 q7 q8 q9
  unfold zk_goto at hck
  split at hck
  all_goals (try simp only [Bool.and_eq_true, decide_eq_true_eq] at hck)
  · obtain ⟨h1, rfl⟩ := hck
    exact lv_goto hx hb hd h1 kk
  · cases hck
/-- which way a comparison goes: 0 eq, 1 ne, 2 lt, 3 ge, 4 gt, 5 le -/
noncomputable def z_cmp (b : Nat) (x y : Int32) : Bool := match b with
  | 0 => decide (x = y)
  | 1 => !decide (x = y)
  | 2 => decide (x < y)
  | 3 => !decide (x < y)
  | 4 => decide (y < x)
  | _ => !decide (y < x)
noncomputable def zo_if : zNop := fun _ _ a b _ k l st h => match st with
  | .int x :: st => zn (if z_cmp b x 0 then a else k + 1) l st h
  | _ => none
noncomputable def zo_icmp : zNop := fun _ _ a b _ k l st h => match st with
  | .int y :: .int x :: st => zn (if z_cmp b x y then a else k + 1) l st h
  | _ => none
noncomputable def zk_if : zCk := fun _ a b _ pc ins len _ nx k => match ins with
  | .ifCond .eq off => decide (b = 0) && decide ((pc : Int) + off = (nx a : Int)) && decide (len = 3) && decide (nx (k + 1) = pc + 3)
  | .ifCond .ne off => decide (b = 1) && decide ((pc : Int) + off = (nx a : Int)) && decide (len = 3) && decide (nx (k + 1) = pc + 3)
  | .ifCond .lt off => decide (b = 2) && decide ((pc : Int) + off = (nx a : Int)) && decide (len = 3) && decide (nx (k + 1) = pc + 3)
  | .ifCond .ge off => decide (b = 3) && decide ((pc : Int) + off = (nx a : Int)) && decide (len = 3) && decide (nx (k + 1) = pc + 3)
  | .ifCond .gt off => decide (b = 4) && decide ((pc : Int) + off = (nx a : Int)) && decide (len = 3) && decide (nx (k + 1) = pc + 3)
  | .ifCond .le off => decide (b = 5) && decide ((pc : Int) + off = (nx a : Int)) && decide (len = 3) && decide (nx (k + 1) = pc + 3)
  | _ => false
noncomputable def zk_icmp : zCk := fun _ a b _ pc ins len _ nx k => match ins with
  | .if_icmp .eq off => decide (b = 0) && decide ((pc : Int) + off = (nx a : Int)) && decide (len = 3) && decide (nx (k + 1) = pc + 3)
  | .if_icmp .ne off => decide (b = 1) && decide ((pc : Int) + off = (nx a : Int)) && decide (len = 3) && decide (nx (k + 1) = pc + 3)
  | .if_icmp .lt off => decide (b = 2) && decide ((pc : Int) + off = (nx a : Int)) && decide (len = 3) && decide (nx (k + 1) = pc + 3)
  | .if_icmp .ge off => decide (b = 3) && decide ((pc : Int) + off = (nx a : Int)) && decide (len = 3) && decide (nx (k + 1) = pc + 3)
  | .if_icmp .gt off => decide (b = 4) && decide ((pc : Int) + off = (nx a : Int)) && decide (len = 3) && decide (nx (k + 1) = pc + 3)
  | .if_icmp .le off => decide (b = 5) && decide ((pc : Int) + off = (nx a : Int)) && decide (len = 3) && decide (nx (k + 1) = pc + 3)
  | _ => false
theorem zs_if : z_Sn zo_if zk_if := by
  intro p l e R s m args below meth c Z D tc adK adV sb sx M nx ad0 n0 C S d Q a b ci k ins len pl hF hK hA hR hd hck lo st h k' lo' st' h' x y hop kc ks hW
  unfold zo_if at hop
  split at hop
  case h_2 => cases hop
  next vx st2 =>
  obtain ⟨rfl, rfl, rfl, rfl, rfl, rfl⟩ := zn_inj hop
  obtain ⟨hx, hb, hml, hr, hown, hts, -⟩ := hF
  intro ad H locs ls cells slots q1 q2 q3 q4 q5 q6 q7 q8 q9
  have kk := hW ad H locs ls cells slots q1 q2 q3 q4 q5 q6 (z_okT q7) q8 q9
  unfold zk_if at hck
  split at hck
  all_goals (try simp only [Bool.and_eq_true, decide_eq_true_eq] at hck)
  · obtain ⟨⟨⟨rfl, h1⟩, rfl⟩, hn⟩ := hck
    refine lv_if_eq hx hb hd h1 (fun q => ?_) (fun q => ?_)
    · rw [if_pos (by first | (simp [z_cmp]; done) | (simp [z_cmp, q]; done) | (simpa [z_cmp] using q))] at kk; exact kk
    · rw [if_neg (by first | (simp [z_cmp, q]; done) | (simpa [z_cmp] using q)), hn] at kk; exact kk
  · obtain ⟨⟨⟨rfl, h1⟩, rfl⟩, hn⟩ := hck
    refine lv_if_ne hx hb hd h1 (fun q => ?_) (fun q => ?_)
    · rw [if_pos (by first | (simp [z_cmp]; done) | (simp [z_cmp, q]; done) | (simpa [z_cmp] using q))] at kk; exact kk
    · rw [if_neg (by first | (simp [z_cmp, q]; done) | (simpa [z_cmp] using q)), hn] at kk; exact kk
  · obtain ⟨⟨⟨rfl, h1⟩, rfl⟩, hn⟩ := hck
    refine lv_if_lt hx hb hd h1 (fun q => ?_) (fun q => ?_)
    · rw [if_pos (by first | (simp [z_cmp]; done) | (simp [z_cmp, q]; done) | (simpa [z_cmp] using q))] at kk; exact kk
    · rw [if_neg (by first | (simp [z_cmp, q]; done) | (simpa [z_cmp] using q)), hn] at kk; exact kk
  · obtain ⟨⟨⟨rfl, h1⟩, rfl⟩, hn⟩ := hck
    refine lv_if_ge hx hb hd h1 (fun q => ?_) (fun q => ?_)
    · rw [if_pos (by first | (simp [z_cmp]; done) | (simp [z_cmp, q]; done) | (simpa [z_cmp] using q))] at kk; exact kk
    · rw [if_neg (by first | (simp [z_cmp, q]; done) | (simpa [z_cmp] using q)), hn] at kk; exact kk
  · obtain ⟨⟨⟨rfl, h1⟩, rfl⟩, hn⟩ := hck
    refine lv_if_gt hx hb hd h1 (fun q => ?_) (fun q => ?_)
    · rw [if_pos (by first | (simp [z_cmp]; done) | (simp [z_cmp, q]; done) | (simpa [z_cmp] using q))] at kk; exact kk
    · rw [if_neg (by first | (simp [z_cmp, q]; done) | (simpa [z_cmp] using q)), hn] at kk; exact kk
  · obtain ⟨⟨⟨rfl, h1⟩, rfl⟩, hn⟩ := hck
    refine lv_if_le hx hb hd h1 (fun q => ?_) (fun q => ?_)
    · rw [if_pos (by first | (simp [z_cmp]; done) | (simp [z_cmp, q]; done) | (simpa [z_cmp] using q))] at kk; exact kk
    · rw [if_neg (by first | (simp [z_cmp, q]; done) | (simpa [z_cmp] using q)), hn] at kk; exact kk
  · cases hck
theorem zs_icmp : z_Sn zo_icmp zk_icmp := by
  intro p l e R s m args below meth c Z D tc adK adV sb sx M nx ad0 n0 C S d Q a b ci k ins len pl hF hK hA hR hd hck lo st h k' lo' st' h' x y hop kc ks hW
  unfold zo_icmp at hop
  split at hop
  case h_2 => cases hop
  next vy vx st2 =>
  obtain ⟨rfl, rfl, rfl, rfl, rfl, rfl⟩ := zn_inj hop
  obtain ⟨hx, hb, hml, hr, hown, hts, -⟩ := hF
  intro ad H locs ls cells slots q1 q2 q3 q4 q5 q6 q7 q8 q9
  have kk := hW ad H locs ls cells slots q1 q2 q3 q4 q5 q6 (z_okT (z_okT q7)) q8 q9
  unfold zk_icmp at hck
  split at hck
  all_goals (try simp only [Bool.and_eq_true, decide_eq_true_eq] at hck)
  · obtain ⟨⟨⟨rfl, h1⟩, rfl⟩, hn⟩ := hck
    refine lv_icmp_eq hx hb hd h1 (fun q => ?_) (fun q => ?_)
    · rw [if_pos (by first | (simp [z_cmp]; done) | (simp [z_cmp, q]; done) | (simpa [z_cmp] using q))] at kk; exact kk
    · rw [if_neg (by first | (simp [z_cmp, q]; done) | (simpa [z_cmp] using q)), hn] at kk; exact kk
  · obtain ⟨⟨⟨rfl, h1⟩, rfl⟩, hn⟩ := hck
    refine lv_icmp_ne hx hb hd h1 (fun q => ?_) (fun q => ?_)
    · rw [if_pos (by first | (simp [z_cmp]; done) | (simp [z_cmp, q]; done) | (simpa [z_cmp] using q))] at kk; exact kk
    · rw [if_neg (by first | (simp [z_cmp, q]; done) | (simpa [z_cmp] using q)), hn] at kk; exact kk
  · obtain ⟨⟨⟨rfl, h1⟩, rfl⟩, hn⟩ := hck
    refine lv_icmp_lt hx hb hd h1 (fun q => ?_) (fun q => ?_)
    · rw [if_pos (by first | (simp [z_cmp]; done) | (simp [z_cmp, q]; done) | (simpa [z_cmp] using q))] at kk; exact kk
    · rw [if_neg (by first | (simp [z_cmp, q]; done) | (simpa [z_cmp] using q)), hn] at kk; exact kk
  · obtain ⟨⟨⟨rfl, h1⟩, rfl⟩, hn⟩ := hck
    refine lv_icmp_ge hx hb hd h1 (fun q => ?_) (fun q => ?_)
    · rw [if_pos (by first | (simp [z_cmp]; done) | (simp [z_cmp, q]; done) | (simpa [z_cmp] using q))] at kk; exact kk
    · rw [if_neg (by first | (simp [z_cmp, q]; done) | (simpa [z_cmp] using q)), hn] at kk; exact kk
  · obtain ⟨⟨⟨rfl, h1⟩, rfl⟩, hn⟩ := hck
    refine lv_icmp_gt hx hb hd h1 (fun q => ?_) (fun q => ?_)
    · rw [if_pos (by first | (simp [z_cmp]; done) | (simp [z_cmp, q]; done) | (simpa [z_cmp] using q))] at kk; exact kk
    · rw [if_neg (by first | (simp [z_cmp, q]; done) | (simpa [z_cmp] using q)), hn] at kk; exact kk
  · obtain ⟨⟨⟨rfl, h1⟩, rfl⟩, hn⟩ := hck
    refine lv_icmp_le hx hb hd h1 (fun q => ?_) (fun q => ?_)
    · rw [if_pos (by first | (simp [z_cmp]; done) | (simp [z_cmp, q]; done) | (simpa [z_cmp] using q))] at kk; exact kk
    · rw [if_neg (by first | (simp [z_cmp, q]; done) | (simpa [z_cmp] using q)), hn] at kk; exact kk
  · cases hck
noncomputable def zo_ifnn : zNop := fun _ _ a _ _ k l st h => match st with
  | .ref _ :: st => zn a l st h
  | .null :: st => zn (k + 1) l st h
  | _ => none
noncomputable def zk_ifnn : zCk := fun _ a _ _ pc ins len _ nx k => match ins with
  | .ifnonnull off => decide ((pc : Int) + off = (nx a : Int)) && decide (len = 3) && decide (nx (k + 1) = pc + 3)
  | _ => false
theorem zs_ifnn : z_Sn zo_ifnn zk_ifnn := by
  intro p l e R s m args below meth c Z D tc adK adV sb sx M nx ad0 n0 C S d Q a b ci k ins len pl hF hK hA hR hd hck lo st h k' lo' st' h' x y hop kc ks hW
  unfold zk_ifnn at hck
  split at hck
  case h_2 => cases hck
  next off =>
  simp only [Bool.and_eq_true, decide_eq_true_eq] at hck
  obtain ⟨⟨h1, rfl⟩, hn⟩ := hck
  unfold zo_ifnn at hop
  split at hop
  · obtain ⟨rfl, rfl, rfl, rfl, rfl, rfl⟩ := zn_inj hop
    obtain ⟨hx, hb, hml, hr, hown, hts, -⟩ := hF
    intro ad H locs ls cells slots q1 q2 q3 q4 q5 q6 q7 q8 q9
    exact lv_ifnonnull hx hb hd h1 (hW ad H locs ls cells slots q1 q2 q3 q4 q5 q6 (z_okT q7) q8 q9)
  · obtain ⟨rfl, rfl, rfl, rfl, rfl, rfl⟩ := zn_inj hop
    obtain ⟨hx, hb, hml, hr, hown, hts, -⟩ := hF
    intro ad H locs ls cells slots q1 q2 q3 q4 q5 q6 q7 q8 q9
    have kk := hW ad H locs ls cells slots q1 q2 q3 q4 q5 q6 (z_okT q7) q8 q9
    rw [hn] at kk
    exact lv_ifnonnullN hx hb hd kk
  · cases hop
/-! switches -/
noncomputable def z_swt (t : Int × List Nat × Nat) (x : Int32) : Nat := if x.toInt < t.1 then t.2.2 else (t.2.1[(x.toInt - t.1).toNat]?).getD t.2.2
noncomputable def zo_tsw : zNop := fun _ _ a _ _ _ l st h => match st with
  | .int x :: st => match z_sw[a]? with
    | some t => zn (z_swt t x) l st h
    | none => none
  | _ => none
noncomputable def zk_tsw : zCk := fun _ a _ _ pc ins _ _ nx _ => match ins with
  | .tableswitch dflt lo hi offs => match z_sw[a]? with
    | some t => decide (t.1 = lo) && decide ((pc : Int) + dflt = (nx t.2.2 : Int)) && decide (hi - lo + 1 = (t.2.1.length : Int)) && decide (offs.toList.map (fun o => (pc : Int) + o) = t.2.1.map (fun n => (nx n : Int)))
    | none => false
  | _ => false
theorem zs_tsw : z_Sn zo_tsw zk_tsw := by
  intro p l e R s m args below meth c Z D tc adK adV sb sx M nx ad0 n0 C S d Q a b ci k ins len pl hF hK hA hR hd hck lo st h k' lo' st' h' x y hop kc ks hW
  unfold zo_tsw at hop
  split at hop
  case h_2 => cases hop
  next vx st2 =>
  split at hop
  case h_2 => cases hop
  next t ht =>
  obtain ⟨rfl, rfl, rfl, rfl, rfl, rfl⟩ := zn_inj hop
  obtain ⟨hx, hb, hml, hr, hown, hts, -⟩ := hF
  intro ad H locs ls cells slots q1 q2 q3 q4 q5 q6 q7 q8 q9
  have kk := hW ad H locs ls cells slots q1 q2 q3 q4 q5 q6 (z_okT q7) q8 q9
  unfold zk_tsw at hck
  split at hck
  case h_2 => cases hck
  next dflt lo hi offs =>
  rw [ht] at hck
  simp only [Bool.and_eq_true, decide_eq_true_eq] at hck
  obtain ⟨⟨⟨h1, h2⟩, h3⟩, h4⟩ := hck
  have hlen : offs.toList.length = t.2.1.length := by have := congrArg List.length h4; simpa using this
  by_cases c1 : vx.toInt < lo
  · unfold z_swt at kk
    rw [h1, if_pos c1] at kk
    exact lv_tableOut hx hb hd (Or.inl c1) h2 kk
  · by_cases c2 : hi < vx.toInt
    · unfold z_swt at kk
      rw [h1, if_neg c1, List.getElem?_eq_none (by omega), Option.getD_none] at kk
      exact lv_tableOut hx hb hd (Or.inr c2) h2 kk
    · have hlt : (vx.toInt - lo).toNat < t.2.1.length := by omega
      have hlt2 : (vx.toInt - lo).toNat < offs.toList.length := by omega
      unfold z_swt at kk
      rw [h1, if_neg c1, List.getElem?_eq_getElem hlt, Option.getD_some] at kk
      have e1 : (offs.toList.map (fun o => ((nx k : Nat) : Int) + o))[(vx.toInt - lo).toNat]? = (t.2.1.map (fun n => (nx n : Int)))[(vx.toInt - lo).toNat]? := by rw [h4]
      rw [List.getElem?_map, List.getElem?_map, List.getElem?_eq_getElem hlt, List.getElem?_eq_getElem hlt2] at e1
      refine lv_tableIn hx hb hd c1 c2 (off := offs.toList[(vx.toInt - lo).toNat]) ?_ (by simpa using e1) kk
      rw [← Array.getElem?_toList, List.getElem?_eq_getElem hlt2]
noncomputable def z_lkt (t : List (Int × Nat) × Nat) (x : Int32) : Nat := ((t.1.find? (fun q => decide (q.1 = x.toInt))).map (fun q => q.2)).getD t.2
noncomputable def zo_lsw : zNop := fun _ _ a _ _ _ l st h => match st with
  | .int x :: st => match z_lk[a]? with
    | some t => zn (z_lkt t x) l st h
    | none => none
  | _ => none
end
section
/-! the last switch -/
noncomputable def z_lkr : List (Int × Nat) → Nat → Int → Nat
  | [], d, _ => d
  | (a, n) :: r, d, k => if a = k then n else z_lkr r d k
noncomputable def zo_lsw2 : zNop := fun _ _ a _ _ _ l st h => match st with
  | .int x :: st => match z_lk[a]? with
    | some t => zn (z_lkr t.1 t.2 x.toInt) l st h
    | none => none
  | _ => none
noncomputable def zk_lsw2 : zCk := fun _ a _ _ pc ins _ _ nx _ => match ins with
  | .lookupswitch dflt ps => match z_lk[a]? with
    | some t => decide ((pc : Int) + dflt = (nx t.2 : Int)) && decide (ps.toList.map (fun q => (q.1, (pc : Int) + q.2)) = t.1.map (fun q => (q.1, (nx q.2 : Int)))) && (ps.toList.zip (ps.toList.drop 1)).all (fun (a, next) => a.1 < next.1)
    | none => false
  | _ => false
theorem z_lkr_ok (nx : Nat → Nat) (pc : Nat) (d : Nat) (dflt key : Int) (hdf : (pc : Int) + dflt = (nx d : Int)) : ∀ (ps : List (Int × Int)) (t : List (Int × Nat)), ps.map (fun q => (q.1, (pc : Int) + q.2)) = t.map (fun q => (q.1, (nx q.2 : Int))) → (pc : Int) + Op.lookupswitch.offset ps dflt key = (nx (z_lkr t d key) : Int)
  | [], [], _ => hdf
  | [], _ :: _, h => by simp at h
  | _ :: _, [], h => by simp at h
  | (a, o) :: ps, (b, n) :: t, h => by
    simp only [List.map_cons, List.cons.injEq, Prod.mk.injEq] at h
    obtain ⟨⟨h1, h2⟩, h3⟩ := h
    subst h1
    rw [Op.lookupswitch.offset_cons, z_lkr]
    by_cases hk : a = key
    · rw [if_pos hk, if_pos hk]; exact h2
    · rw [if_neg hk, if_neg hk]; exact z_lkr_ok nx pc d dflt key hdf ps t h3
theorem zs_lsw2 : z_Sn zo_lsw2 zk_lsw2 := by
  intro p l e R s m args below meth c Z D tc adK adV sb sx M nx ad0 n0 C S d Q a b ci k ins len pl hF hK hA hR hd hck lo st h k' lo' st' h' x y hop kc ks hW
  unfold zo_lsw2 at hop
  split at hop
  case h_2 => cases hop
  next vx st2 =>
  split at hop
  case h_2 => cases hop
  next t ht =>
  obtain ⟨rfl, rfl, rfl, rfl, rfl, rfl⟩ := zn_inj hop
  obtain ⟨hx, hb, hml, hr, hown, hts, -⟩ := hF
  intro ad H locs ls cells slots q1 q2 q3 q4 q5 q6 q7 q8 q9
  have kk := hW ad H locs ls cells slots q1 q2 q3 q4 q5 q6 (z_okT q7) q8 q9
  unfold zk_lsw2 at hck
  split at hck
  case h_2 => cases hck
  next dflt ps =>
  rw [ht] at hck
  simp only [Bool.and_eq_true, decide_eq_true_eq] at hck
  obtain ⟨⟨h1, h2⟩, h3⟩ := hck
  exact lv_lookup hx hb hd h3 rfl (z_lkr_ok nx (nx k) t.2 dflt vx.toInt h1 ps.toList t.1 h2) kk
/-! the classes of the objects -/
theorem z_pl {ws : List Cond} (ps : List Nat) (hl : ws.length = ps.length) (h : (ws.zip ps).all (fun q => z_w q.1 q.2) = true) : ∀ w ∈ ws, w ∈ z_T := by
  intro w hw
  obtain ⟨i, hi, he⟩ := List.mem_iff_getElem.mp hw
  have hz : (w, ps[i]'(by omega)) ∈ ws.zip ps := by
    rw [← he]
    exact List.mem_iff_getElem.mpr ⟨i, by rw [List.length_zip]; omega, by simp⟩
  exact z_w_in (List.all_eq_true.mp h _ hz)
noncomputable def z_clsP (ci : Nat) (q : vw_C) : Prop := (∀ w ∈ u_ws q.1 q.2.1 q.2.2, w ∈ z_T) ∧ ∃ ty : Nat → FieldType, (∀ k, k < q.2.2 → parseFieldDescriptor (q.2.1 k).2.2.1 = some (ty k)) ∧ (∀ a, a < q.2.2 → ∀ b, b < q.2.2 → a ≠ b → (q.2.1 a).2.1 ≠ (q.2.1 b).2.1) ∧ ∀ j, j < q.2.2 → defaultValue (ty j) = vp_V (z_df.getD ci []) j
theorem z_cls0 : z_clsP 0 (RX1, TX1, 5) := ⟨z_pl z_lp0 rfl (by decide +kernel), tyX1, tyX1_ok, nmX1, by decide +kernel⟩
theorem z_cls1 : z_clsP 1 (RX2, TX2, 18) := ⟨z_pl z_lp1 rfl (by decide +kernel), tyX2, tyX2_ok, nmX2, by decide +kernel⟩
theorem z_cls2 : z_clsP 2 (RX3, TX3, 6) := ⟨z_pl z_lp2 rfl (by decide +kernel), tyX3, tyX3_ok, nmX3, by decide +kernel⟩
theorem z_cls3 : z_clsP 3 (RX4, TX4, 6) := ⟨z_pl z_lp3 rfl (by decide +kernel), tyX4, tyX4_ok, nmX4, by decide +kernel⟩
theorem z_cls4 : z_clsP 4 (RX5, TX5, 3) := ⟨z_pl z_lp4 rfl (by decide +kernel), tyX5, tyX5_ok, nmX5, by decide +kernel⟩
theorem z_cls5 : z_clsP 5 (RX6, TX6, 3) := ⟨z_pl z_lp5 rfl (by decide +kernel), tyX6, tyX6_ok, nmX6, by decide +kernel⟩
theorem z_cls6 : z_clsP 6 (RX8, TX8, 4) := ⟨z_pl z_lp6 rfl (by decide +kernel), tyX8, tyX8_ok, nmX8, by decide +kernel⟩
theorem z_cls7 : z_clsP 7 (RX9, TX9, 4) := ⟨z_pl z_lp7 rfl (by decide +kernel), tyX9, tyX9_ok, nmX9, by decide +kernel⟩
theorem z_cls8 : z_clsP 8 (RX11, TX11, 8) := ⟨z_pl z_lp8 rfl (by decide +kernel), tyX11, tyX11_ok, nmX11, by decide +kernel⟩
theorem z_cls9 : z_clsP 9 (RX12, TX12, 23) := ⟨z_pl z_lp9 rfl (by decide +kernel), tyX12, tyX12_ok, nmX12, by decide +kernel⟩
theorem z_cls : ∀ (ci : Nat) (q : vw_C), vwCl[ci]? = some q → z_clsP ci q
  | 0, q, h => by cases h; exact z_cls0
  | 1, q, h => by cases h; exact z_cls1
  | 2, q, h => by cases h; exact z_cls2
  | 3, q, h => by cases h; exact z_cls3
  | 4, q, h => by cases h; exact z_cls4
  | 5, q, h => by cases h; exact z_cls5
  | 6, q, h => by cases h; exact z_cls6
  | 7, q, h => by cases h; exact z_cls7
  | 8, q, h => by cases h; exact z_cls8
  | 9, q, h => by cases h; exact z_cls9
  | n + 10, q, h => by simp [vwCl] at h
/-! fields -/
noncomputable def zo_get : zNop := fun _ _ a b _ k l st h => match st with
  | .ref i :: st => match h[i]? with
    | some (.inr (c, fs)) => if c = a then (match fs[b]? with | some v => zn (k + 1) l (v :: st) h | none => none) else none
    | _ => none
  | _ => none
noncomputable def zk_get : zCk := fun M a b _ pc ins len pl nx k => match ins with
  | .getfield idx => decide (len = 3) && decide (nx (k + 1) = pc + 3) && (match vwCl[a]? with
    | some q => decide (b < q.2.2) && z_w (.fieldLink M.1 idx (q.2.1 b).1 (q.2.1 b).2.1 (q.2.1 b).2.2.1) (pl.getD 0 0)
    | none => false)
  | _ => false
theorem z_R_fs {Z : Nat} {D : va_G} {tc : Nat → ClassId} {ad : Nat → Nat} {h : zH} {H : Heap} (hR : z_R Z D tc ad h H) {i c : Nat} {fs : List Value} (he : h[i]? = some (.inr (c, fs))) {v : Value} (hv : v ∈ fs) : z_okV h.length v := hR.2.2.1 _ (List.mem_of_getElem? he) v hv
theorem zs_get : z_Sn zo_get zk_get := by
  intro p l e R s m args below meth c Z D tc adK adV sb sx M nx ad0 n0 C S d Q a b ci k ins len pl hF hK hA hR hd hck lo st h k' lo' st' h' x y hop kc ks hW
  unfold zo_get at hop
  split at hop
  case h_2 => cases hop
  next i st2 =>
  split at hop
  case h_2 => cases hop
  next c' fs he =>
  by_cases hca : c' = a
  case neg => rw [if_neg hca] at hop; cases hop
  rw [if_pos hca] at hop
  subst hca
  split at hop
  case h_2 => cases hop
  next v hv =>
  obtain ⟨rfl, rfl, rfl, rfl, rfl, rfl⟩ := zn_inj hop
  obtain ⟨hx, hb, hml, hr, hown, hts, -⟩ := hF
  intro ad H locs ls cells slots q1 q2 q3 q4 q5 q6 q7 q8 q9
  have kk := hW ad H locs ls cells slots q1 q2 q3 q4 q5 q6 (z_okC (z_R_fs q1 he (List.mem_of_getElem? hv)) (z_okT q7)) q8 q9
  unfold zk_get at hck
  split at hck
  case h_2 => cases hck
  next idx =>
  simp only [Bool.and_eq_true, decide_eq_true_eq] at hck
  obtain ⟨⟨rfl, hn⟩, hck⟩ := hck
  rw [hn] at kk
  split at hck
  case h_2 => cases hck
  next q hq =>
  simp only [Bool.and_eq_true, decide_eq_true_eq] at hck
  obtain ⟨h1, h2⟩ := hck
  exact va_get (C := q.1) (T := q.2.1) (N := q.2.2) hx hb hts (z_cls c' q hq).1 hown hK.2.1 q1.1 i (z_ws_get he) hq b h1 (hts _ (z_w_in h2)) (fun _ h9 => h9) (v := z_tr ad v) (by rw [List.getElem?_map, hv]; rfl) hd kk
/-- what a field of kind c (0 int, 1 boolean, 2 reference) may hold -/
noncomputable def z_fit (c : Int) (v : Value) : Bool := match v with
  | .int x => decide (c = 0) || (decide (c = 1) && (decide (x = 0) || decide (x = 1)))
  | .ref _ => decide (c = 2)
  | .null => decide (c = 2)
  | _ => false
noncomputable def z_kind (c : Int) (t : Option FieldType) : Bool := match t with
  | some .int => decide (c = 0)
  | some .boolean => decide (c = 1)
  | some (.object _) => decide (c = 2)
  | some (.array _) => decide (c = 2)
  | _ => false
theorem z_fit_ok {c : Int} {v : Value} {ty : FieldType} (ad : Nat → Nat) (h : z_fit c v = true) (hk : z_kind c (some ty) = true) : narrow ty (z_tr ad v) = z_tr ad v ∧ fits ty (z_tr ad v) = true := by
  cases ty <;> simp only [z_kind, decide_eq_true_eq, Bool.false_eq_true] at hk <;> subst hk <;> cases v <;> simp [z_fit] at h <;> simp [z_tr, narrow, fits]
  rcases h with rfl | rfl <;> decide
noncomputable def zo_put : zNop := fun _ _ a b c k l st h => match st with
  | v :: .ref i :: st => match h[i]? with
    | some (.inr (c', fs)) => if c' = a ∧ b < fs.length ∧ z_fit c v = true then zn (k + 1) l st (h.set i (.inr (c', fs.set b v))) else none
    | _ => none
  | _ => none
noncomputable def zk_put : zCk := fun M a b c pc ins len pl nx k => match ins with
  | .putfield idx => decide (len = 3) && decide (nx (k + 1) = pc + 3) && (match vwCl[a]? with
    | some q => decide (b < q.2.2) && z_w (.fieldLink M.1 idx (q.2.1 b).1 (q.2.1 b).2.1 (q.2.1 b).2.2.1) (pl.getD 0 0) && z_kind c (parseFieldDescriptor (q.2.1 b).2.2.1) && (!(q.2.1 b).2.2.2 || (decide (M.2.1.name = "<init>") && decide ((q.2.1 b).1 = M.1)))
    | none => false)
  | _ => false
theorem zs_put : z_Sn zo_put zk_put := by
  intro p l e R s m args below meth c Z D tc adK adV sb sx M nx ad0 n0 C S d Q a b ci k ins len pl hF hK hA hR hd hck lo st h k' lo' st' h' x y hop kc ks hW
  unfold zo_put at hop
  split at hop
  case h_2 => cases hop
  next v i st2 =>
  split at hop
  case h_2 => cases hop
  next c' fs he =>
  by_cases hca : c' = a ∧ b < fs.length ∧ z_fit ci v = true
  case neg => rw [if_neg hca] at hop; cases hop
  rw [if_pos hca] at hop
  obtain ⟨rfl, hbl, hft⟩ := hca
  obtain ⟨rfl, rfl, rfl, rfl, rfl, rfl⟩ := zn_inj hop
  obtain ⟨hx, hb, hml, hr, hown, hts, -, -, hnm⟩ := hF
  intro ad H locs ls cells slots q1 q2 q3 q4 q5 q6 q7 q8 q9
  unfold zk_put at hck
  split at hck
  case h_2 => cases hck
  next idx =>
  simp only [Bool.and_eq_true, decide_eq_true_eq] at hck
  obtain ⟨⟨rfl, hn⟩, hck⟩ := hck
  split at hck
  case h_2 => cases hck
  next q hq =>
  simp only [Bool.and_eq_true, decide_eq_true_eq] at hck
  obtain ⟨⟨⟨h1, h2⟩, h3⟩, h4⟩ := hck
  obtain ⟨ty, hty, hnd, -⟩ := (z_cls c' q hq).2
  have hty1 := hty b h1
  rw [hty1] at h3
  obtain ⟨f1, f2⟩ := z_fit_ok ad hft h3
  have fin : ∀ (H1 : Heap) (locs1 : List Loc), va_P D vwCl ((z_ws ad tc h).set i (ad i, .inr (c', (fs.map (z_tr ad)).set b (z_tr ad v)))) H1 → va_D (fun q => Z ≤ q) ((z_ws ad tc h).set i (ad i, .inr (c', (fs.map (z_tr ad)).set b (z_tr ad v)))) → va_S (fun q => Z ≤ q) s.heap H1 locs1 → W p l e R s m args below meth c H1 locs1 cells slots Q (F0 m (nx k + 3) ls (st'.map (z_tr ad))) := by
    intro H1 locs1 g1 g2 g3
    rw [← List.map_set] at g1 g2
    have okE : z_okE h.length (.inr (c', fs.set b v)) := fun w hw => by
      rcases List.mem_or_eq_of_mem_set hw with z | z
      · exact z_R_fs q1 he z
      · rw [z]; exact z_ok1 q7
    have kk := hW ad H1 locs1 ls cells slots (q1.set (e := .inr (c', fs.set b v)) g1 g2 okE) q2 (by rw [List.length_set]; exact q3) g3 q5 (by rw [List.length_set]; exact q6) (by rw [List.length_set]; exact z_okT (z_okT q7)) q8 q9
    rw [hn] at kk
    exact kk
  by_cases hfin : (q.2.1 b).2.2.2 = true
  · rw [hfin] at h4
    simp only [Bool.not_true, Bool.false_or, Bool.and_eq_true, decide_eq_true_eq] at h4
    exact va_putF (C := q.1) (T := q.2.1) (N := q.2.2) hx hb hts (z_cls c' q hq).1 ty hty hnd hown hK.2.1 q1.1 q1.2.1 q4 i (z_ws_get he) hq b h1 (hts _ (z_w_in h2)) (fun _ h9 => h9) hfin (by rw [hnm]; exact h4.1) h4.2 hty1 f1 f2 (by rw [List.length_map]; exact hbl) hd fin
  · exact va_put (C := q.1) (T := q.2.1) (N := q.2.2) hx hb hts (z_cls c' q hq).1 ty hty hnd hown hK.2.1 q1.1 q1.2.1 q4 i (z_ws_get he) hq b h1 (hts _ (z_w_in h2)) (fun _ h9 => h9) (by simpa using hfin) hty1 f1 f2 (by rw [List.length_map]; exact hbl) hd fin
end
section
/-! arrays -/
noncomputable def z_in (i : Int32) (n : Nat) : Bool := !(decide (i < 0) || decide (n ≤ i.toNatClampNeg))
theorem z_in_ok {i : Int32} {n : Nat} (h : z_in i n = true) : vp_in i n := by
  unfold z_in at h
  simp only [Bool.not_eq_true', Bool.or_eq_false_iff, decide_eq_false_iff_not] at h
  exact fun q => q.elim h.1 h.2
noncomputable def zo_iald : zNop := fun _ _ _ _ _ k l st h => match st with
  | .int j :: .ref i :: st => match h[i]? with
    | some (.inl (0, (n, .inl f))) => if z_in j n = true then zn (k + 1) l (.int (f j.toNatClampNeg) :: st) h else none
    | _ => none
  | _ => none
noncomputable def zk_iald : zCk := fun _ _ _ _ pc ins len _ nx k => match ins with
  | .iaload => decide (len = 1) && decide (nx (k + 1) = pc + 1)
  | _ => false
theorem zs_iald : z_Sn zo_iald zk_iald := by
  intro p l e R s m args below meth c Z D tc adK adV sb sx M nx ad0 n0 C S d Q a b ci k ins len pl hF hK hA hR hd hck lo st h k' lo' st' h' x y hop kc ks hW
  unfold zo_iald at hop
  split at hop
  case h_2 => cases hop
  next j i st2 =>
  split at hop
  case h_2 => cases hop
  next n f he =>
  by_cases hj : z_in j n = true
  case neg => rw [if_neg hj] at hop; cases hop
  rw [if_pos hj] at hop
  obtain ⟨rfl, rfl, rfl, rfl, rfl, rfl⟩ := zn_inj hop
  obtain ⟨hx, hb, hml, hr, hown, hts, -⟩ := hF
  intro ad H locs ls cells slots q1 q2 q3 q4 q5 q6 q7 q8 q9
  have kk := hW ad H locs ls cells slots q1 q2 q3 q4 q5 q6 (z_okC (z_okV_int _ _) (z_okT (z_okT q7))) q8 q9
  unfold zk_iald at hck
  split at hck
  case h_2 => cases hck
  simp only [Bool.and_eq_true, decide_eq_true_eq] at hck
  obtain ⟨rfl, hn⟩ := hck
  rw [hn] at kk
  
  exact va_iald hx hb hK.2.1 q1.1 i 0 (z_ws_get he) rfl (z_in_ok hj) hd kk
noncomputable def zo_bald : zNop := fun _ _ _ _ _ k l st h => match st with
  | .int j :: .ref i :: st => match h[i]? with
    | some (.inl (1, (n, .inl f))) => if z_in j n = true then zn (k + 1) l (.int (f j.toNatClampNeg) :: st) h else none
    | _ => none
  | _ => none
noncomputable def zk_bald : zCk := fun _ _ _ _ pc ins len _ nx k => match ins with
  | .baload => decide (len = 1) && decide (nx (k + 1) = pc + 1)
  | _ => false
theorem zs_bald : z_Sn zo_bald zk_bald := by
  intro p l e R s m args below meth c Z D tc adK adV sb sx M nx ad0 n0 C S d Q a b ci k ins len pl hF hK hA hR hd hck lo st h k' lo' st' h' x y hop kc ks hW
  unfold zo_bald at hop
  split at hop
  case h_2 => cases hop
  next j i st2 =>
  split at hop
  case h_2 => cases hop
  next n f he =>
  by_cases hj : z_in j n = true
  case neg => rw [if_neg hj] at hop; cases hop
  rw [if_pos hj] at hop
  obtain ⟨rfl, rfl, rfl, rfl, rfl, rfl⟩ := zn_inj hop
  obtain ⟨hx, hb, hml, hr, hown, hts, -⟩ := hF
  intro ad H locs ls cells slots q1 q2 q3 q4 q5 q6 q7 q8 q9
  have kk := hW ad H locs ls cells slots q1 q2 q3 q4 q5 q6 (z_okC (z_okV_int _ _) (z_okT (z_okT q7))) q8 q9
  unfold zk_bald at hck
  split at hck
  case h_2 => cases hck
  simp only [Bool.and_eq_true, decide_eq_true_eq] at hck
  obtain ⟨rfl, hn⟩ := hck
  rw [hn] at kk
  
  exact va_bald hx hb hK.2.1 q1.1 i 1 (z_ws_get he) rfl (z_in_ok hj) hd kk
noncomputable def zo_lald : zNop := fun _ _ _ _ _ k l st h => match st with
  | .int j :: .ref i :: st => match h[i]? with
    | some (.inl (2, (n, .inr (.inl f)))) => if z_in j n = true then zn (k + 1) l (.long (f j.toNatClampNeg) :: st) h else none
    | _ => none
  | _ => none
noncomputable def zk_lald : zCk := fun _ _ _ _ pc ins len _ nx k => match ins with
  | .laload => decide (len = 1) && decide (nx (k + 1) = pc + 1)
  | _ => false
theorem zs_lald : z_Sn zo_lald zk_lald := by
  intro p l e R s m args below meth c Z D tc adK adV sb sx M nx ad0 n0 C S d Q a b ci k ins len pl hF hK hA hR hd hck lo st h k' lo' st' h' x y hop kc ks hW
  unfold zo_lald at hop
  split at hop
  case h_2 => cases hop
  next j i st2 =>
  split at hop
  case h_2 => cases hop
  next n f he =>
  by_cases hj : z_in j n = true
  case neg => rw [if_neg hj] at hop; cases hop
  rw [if_pos hj] at hop
  obtain ⟨rfl, rfl, rfl, rfl, rfl, rfl⟩ := zn_inj hop
  obtain ⟨hx, hb, hml, hr, hown, hts, -⟩ := hF
  intro ad H locs ls cells slots q1 q2 q3 q4 q5 q6 q7 q8 q9
  have kk := hW ad H locs ls cells slots q1 q2 q3 q4 q5 q6 (z_okC (z_okV_long _ _) (z_okT (z_okT q7))) q8 q9
  unfold zk_lald at hck
  split at hck
  case h_2 => cases hck
  simp only [Bool.and_eq_true, decide_eq_true_eq] at hck
  obtain ⟨rfl, hn⟩ := hck
  rw [hn] at kk
  
  exact va_lald hx hb hK.2.1 q1.1 i 2 (z_ws_get he) rfl (z_in_ok hj) hd kk
theorem z_rf_tr (ad : Nat → Nat) (r : Option Nat) : va_rf (r.map ad) = z_tr ad (va_rf r) := by cases r <;> rfl
noncomputable def zo_aald : zNop := fun _ _ _ _ _ k l st h => match st with
  | .int j :: .ref i :: st => match h[i]? with
    | some (.inl (3, (n, .inr (.inr (.inr (.inr f)))))) => if z_in j n = true then zn (k + 1) l (va_rf (f j.toNatClampNeg) :: st) h else none
    | _ => none
  | _ => none
noncomputable def zk_aald : zCk := fun _ _ _ _ pc ins len _ nx k => match ins with
  | .aaload => decide (len = 1) && decide (nx (k + 1) = pc + 1)
  | _ => false
theorem zs_aald : z_Sn zo_aald zk_aald := by
  intro p l e R s m args below meth c Z D tc adK adV sb sx M nx ad0 n0 C S d Q a b ci k ins len pl hF hK hA hR hd hck lo st h k' lo' st' h' x y hop kc ks hW
  unfold zo_aald at hop
  split at hop
  case h_2 => cases hop
  next j i st2 =>
  split at hop
  case h_2 => cases hop
  next n f he =>
  by_cases hj : z_in j n = true
  case neg => rw [if_neg hj] at hop; cases hop
  rw [if_pos hj] at hop
  obtain ⟨rfl, rfl, rfl, rfl, rfl, rfl⟩ := zn_inj hop
  obtain ⟨hx, hb, hml, hr, hown, hts, -⟩ := hF
  intro ad H locs ls cells slots q1 q2 q3 q4 q5 q6 q7 q8 q9
  have hok : z_okV h'.length (va_rf (f j.toNatClampNeg)) := by
    have h0 : ∀ j i, f j = some i → i < h'.length := q1.2.2.1 _ (List.mem_of_getElem? he)
    cases hf : f j.toNatClampNeg with
    | none => exact z_okV_null _
    | some i9 => exact fun z hz => by cases hz; exact Or.inl (h0 _ _ hf)
  have kk := hW ad H locs ls cells slots q1 q2 q3 q4 q5 q6 (z_okC hok (z_okT (z_okT q7))) q8 q9
  unfold zk_aald at hck
  split at hck
  case h_2 => cases hck
  simp only [Bool.and_eq_true, decide_eq_true_eq] at hck
  obtain ⟨rfl, hn⟩ := hck
  rw [hn, List.map_cons, ← z_rf_tr] at kk
  exact va_aldq hx hb hK.2.1 q1.1 i 3 (z_ws_get he) rfl (z_in_ok hj) hd kk
noncomputable def zo_iast : zNop := fun _ _ _ _ _ k l st h => match st with
  | .int v :: .int j :: .ref i :: st => match h[i]? with
    | some (.inl (0, (n, .inl f))) => if z_in j n = true then zn (k + 1) l st (h.set i (.inl (0, (n, .inl (upd f j.toNatClampNeg v))))) else none
    | _ => none
  | _ => none
noncomputable def zk_iast : zCk := fun _ _ _ _ pc ins len _ nx k => match ins with
  | .iastore => decide (len = 1) && decide (nx (k + 1) = pc + 1)
  | _ => false
theorem zs_iast : z_Sn zo_iast zk_iast := by
  intro p l e R s m args below meth c Z D tc adK adV sb sx M nx ad0 n0 C S d Q a b ci k ins len pl hF hK hA hR hd hck lo st h k' lo' st' h' x y hop kc ks hW
  unfold zo_iast at hop
  split at hop
  case h_2 => cases hop
  next v j i st2 =>
  split at hop
  case h_2 => cases hop
  next n f he =>
  by_cases hj : z_in j n = true
  case neg => rw [if_neg hj] at hop; cases hop
  rw [if_pos hj] at hop
  obtain ⟨rfl, rfl, rfl, rfl, rfl, rfl⟩ := zn_inj hop
  obtain ⟨hx, hb, hml, hr, hown, hts, -⟩ := hF
  intro ad H locs ls cells slots q1 q2 q3 q4 q5 q6 q7 q8 q9
  unfold zk_iast at hck
  split at hck
  case h_2 => cases hck
  simp only [Bool.and_eq_true, decide_eq_true_eq] at hck
  obtain ⟨rfl, hn⟩ := hck
  refine va_iast hx hb hK.2.1 q1.1 q1.2.1 q4 i 0 (z_ws_get he) rfl (z_in_ok hj) hd fun H1 locs1 g1 g2 g3 => ?_
  have kk := hW ad H1 locs1 ls cells slots (q1.set (e := .inl (0, (n, .inl (upd f j.toNatClampNeg v)))) g1 g2 trivial) q2 (by rw [List.length_set]; exact q3) g3 q5 (by rw [List.length_set]; exact q6) (by rw [List.length_set]; exact z_okT (z_okT (z_okT q7))) q8 q9
  rw [hn] at kk
  exact kk
noncomputable def zo_bast : zNop := fun _ _ _ _ _ k l st h => match st with
  | .int v :: .int j :: .ref i :: st => match h[i]? with
    | some (.inl (1, (n, .inl f))) => if z_in j n = true then zn (k + 1) l st (h.set i (.inl (1, (n, .inl (upd f j.toNatClampNeg (vp_nar .byte v)))))) else none
    | _ => none
  | _ => none
noncomputable def zk_bast : zCk := fun _ _ _ _ pc ins len _ nx k => match ins with
  | .bastore => decide (len = 1) && decide (nx (k + 1) = pc + 1)
  | _ => false
theorem zs_bast : z_Sn zo_bast zk_bast := by
  intro p l e R s m args below meth c Z D tc adK adV sb sx M nx ad0 n0 C S d Q a b ci k ins len pl hF hK hA hR hd hck lo st h k' lo' st' h' x y hop kc ks hW
  unfold zo_bast at hop
  split at hop
  case h_2 => cases hop
  next v j i st2 =>
  split at hop
  case h_2 => cases hop
  next n f he =>
  by_cases hj : z_in j n = true
  case neg => rw [if_neg hj] at hop; cases hop
  rw [if_pos hj] at hop
  obtain ⟨rfl, rfl, rfl, rfl, rfl, rfl⟩ := zn_inj hop
  obtain ⟨hx, hb, hml, hr, hown, hts, -⟩ := hF
  intro ad H locs ls cells slots q1 q2 q3 q4 q5 q6 q7 q8 q9
  unfold zk_bast at hck
  split at hck
  case h_2 => cases hck
  simp only [Bool.and_eq_true, decide_eq_true_eq] at hck
  obtain ⟨rfl, hn⟩ := hck
  refine va_bast hx hb hK.2.1 q1.1 q1.2.1 q4 i 1 (z_ws_get he) rfl (z_in_ok hj) hd fun H1 locs1 g1 g2 g3 => ?_
  have kk := hW ad H1 locs1 ls cells slots (q1.set (e := .inl (1, (n, .inl (upd f j.toNatClampNeg (vp_nar .byte v))))) g1 g2 trivial) q2 (by rw [List.length_set]; exact q3) g3 q5 (by rw [List.length_set]; exact q6) (by rw [List.length_set]; exact z_okT (z_okT (z_okT q7))) q8 q9
  rw [hn] at kk
  exact kk
noncomputable def zo_last : zNop := fun _ _ _ _ _ k l st h => match st with
  | .long v :: .int j :: .ref i :: st => match h[i]? with
    | some (.inl (2, (n, .inr (.inl f)))) => if z_in j n = true then zn (k + 1) l st (h.set i (.inl (2, (n, .inr (.inl (vp_updL f j.toNatClampNeg v)))))) else none
    | _ => none
  | _ => none
noncomputable def zk_last : zCk := fun _ _ _ _ pc ins len _ nx k => match ins with
  | .lastore => decide (len = 1) && decide (nx (k + 1) = pc + 1)
  | _ => false
theorem zs_last : z_Sn zo_last zk_last := by
  intro p l e R s m args below meth c Z D tc adK adV sb sx M nx ad0 n0 C S d Q a b ci k ins len pl hF hK hA hR hd hck lo st h k' lo' st' h' x y hop kc ks hW
  unfold zo_last at hop
  split at hop
  case h_2 => cases hop
  next v j i st2 =>
  split at hop
  case h_2 => cases hop
  next n f he =>
  by_cases hj : z_in j n = true
  case neg => rw [if_neg hj] at hop; cases hop
  rw [if_pos hj] at hop
  obtain ⟨rfl, rfl, rfl, rfl, rfl, rfl⟩ := zn_inj hop
  obtain ⟨hx, hb, hml, hr, hown, hts, -⟩ := hF
  intro ad H locs ls cells slots q1 q2 q3 q4 q5 q6 q7 q8 q9
  unfold zk_last at hck
  split at hck
  case h_2 => cases hck
  simp only [Bool.and_eq_true, decide_eq_true_eq] at hck
  obtain ⟨rfl, hn⟩ := hck
  refine va_last hx hb hK.2.1 q1.1 q1.2.1 q4 i 2 (z_ws_get he) rfl (z_in_ok hj) hd fun H1 locs1 g1 g2 g3 => ?_
  have kk := hW ad H1 locs1 ls cells slots (q1.set (e := .inl (2, (n, .inr (.inl (vp_updL f j.toNatClampNeg v))))) g1 g2 trivial) q2 (by rw [List.length_set]; exact q3) g3 q5 (by rw [List.length_set]; exact q6) (by rw [List.length_set]; exact z_okT (z_okT (z_okT q7))) q8 q9
  rw [hn] at kk
  exact kk
noncomputable def zo_aast : zNop := fun _ _ _ _ _ k l st h => match st with
  | .ref v :: .int j :: .ref i :: st => match h[i]?, h[v]? with
    | some (.inl (3, (n, .inr (.inr (.inr (.inr f)))))), some (.inr (1, _)) => if z_in j n = true then zn (k + 1) l st (h.set i (.inl (3, (n, .inr (.inr (.inr (.inr (va_up f j.toNatClampNeg (some v))))))))) else none
    | _, _ => none
  | _ => none
noncomputable def zk_aast : zCk := fun _ _ _ _ pc ins len _ nx k => match ins with
  | .aastore => decide (len = 1) && decide (nx (k + 1) = pc + 1)
  | _ => false
theorem z_trA_up (ad : Nat → Nat) (f : Nat → Option Nat) (j v : Nat) : (fun q => (va_up f j (some v) q).map ad) = va_up (fun q => (f q).map ad) j (some (ad v)) := by
  funext q
  unfold va_up
  by_cases h : q = j
  · rw [if_pos h, if_pos h]; rfl
  · rw [if_neg h, if_neg h]
theorem zs_aast : z_Sn zo_aast zk_aast := by
  intro p l e R s m args below meth c Z D tc adK adV sb sx M nx ad0 n0 C S d Q a b ci k ins len pl hF hK hA hR hd hck lo st h k' lo' st' h' x y hop kc ks hW
  unfold zo_aast at hop
  split at hop
  case h_2 => cases hop
  next v j i st2 =>
  split at hop
  case h_2 => cases hop
  next n f fs he hv =>
  by_cases hj : z_in j n = true
  case neg => rw [if_neg hj] at hop; cases hop
  rw [if_pos hj] at hop
  obtain ⟨rfl, rfl, rfl, rfl, rfl, rfl⟩ := zn_inj hop
  obtain ⟨hx, hb, hml, hr, hown, hts, -⟩ := hF
  intro ad H locs ls cells slots q1 q2 q3 q4 q5 q6 q7 q8 q9
  unfold zk_aast at hck
  split at hck
  case h_2 => cases hck
  simp only [Bool.and_eq_true, decide_eq_true_eq] at hck
  obtain ⟨rfl, hn⟩ := hck
  refine va_astq hx hb hK.2.1 q1.1 q1.2.1 q4 i 3 v 1 (r := (RX2, TX2, 18)) (z_ws_get he) rfl (z_ws_get hv) rfl (z_in_ok hj) hd fun H1 locs1 g1 g2 g3 => ?_
  have okE : z_okE h.length (.inl (3, (n, .inr (.inr (.inr (.inr (va_up f j.toNatClampNeg (some v)))))))) := by
    have h0 : ∀ j i, f j = some i → i < h.length := q1.2.2.1 _ (List.mem_of_getElem? he)
    intro q i9 hq
    unfold va_up at hq
    by_cases hqj : q = j.toNatClampNeg
    · rw [if_pos hqj] at hq
      cases hq
      exact (List.getElem?_eq_some_iff.mp hv).1
    · rw [if_neg hqj] at hq
      exact h0 q i9 hq
  rw [← z_trA_up] at g1 g2
  have kk := hW ad H1 locs1 ls cells slots (q1.set (e := .inl (3, (n, .inr (.inr (.inr (.inr (va_up f j.toNatClampNeg (some v)))))))) g1 g2 okE) q2 (by rw [List.length_set]; exact q3) g3 q5 (by rw [List.length_set]; exact q6) (by rw [List.length_set]; exact z_okT (z_okT (z_okT q7))) q8 q9
  rw [hn] at kk
  exact kk
noncomputable def zo_alen : zNop := fun _ _ _ _ _ k l st h => match st with
  | .ref i :: st => match h[i]? with
    | some (.inl (t, (n, _))) => if t < 4 then zn (k + 1) l (.int (Int32.ofNat n) :: st) h else none
    | _ => none
  | _ => none
noncomputable def zk_alen : zCk := fun _ _ _ _ pc ins len _ nx k => match ins with
  | .arraylength => decide (len = 1) && decide (nx (k + 1) = pc + 1)
  | _ => false
theorem z_trA_len (ad : Nat → Nat) (a : vp_A) : (z_trA ad a).1 = a.1 := by
  obtain ⟨n, f | f | f | f | f⟩ := a <;> rfl
theorem z_tys_at (tc : Nat → ClassId) {t : Nat} (h : t < 4) : ∃ ty, (z_tys tc)[t]? = some (tc t, ty) := by
  match t, h with
  | 0, _ => exact ⟨_, rfl⟩
  | 1, _ => exact ⟨_, rfl⟩
  | 2, _ => exact ⟨_, rfl⟩
  | 3, _ => exact ⟨_, rfl⟩
theorem zs_alen : z_Sn zo_alen zk_alen := by
  intro p l e R s m args below meth c Z D tc adK adV sb sx M nx ad0 n0 C S d Q a b ci k ins len pl hF hK hA hR hd hck lo st h k' lo' st' h' x y hop kc ks hW
  unfold zo_alen at hop
  split at hop
  case h_2 => cases hop
  next i st2 =>
  split at hop
  case h_2 => cases hop
  next t n f he =>
  by_cases ht : t < 4
  case neg => rw [if_neg ht] at hop; cases hop
  rw [if_pos ht] at hop
  obtain ⟨rfl, rfl, rfl, rfl, rfl, rfl⟩ := zn_inj hop
  obtain ⟨hx, hb, hml, hr, hown, hts, -⟩ := hF
  intro ad H locs ls cells slots q1 q2 q3 q4 q5 q6 q7 q8 q9
  have kk := hW ad H locs ls cells slots q1 q2 q3 q4 q5 q6 (z_okC (z_okV_int _ _) (z_okT q7)) q8 q9
  unfold zk_alen at hck
  split at hck
  case h_2 => cases hck
  simp only [Bool.and_eq_true, decide_eq_true_eq] at hck
  obtain ⟨rfl, hn⟩ := hck
  rw [hn] at kk
  obtain ⟨ty, hty⟩ := z_tys_at tc ht
  exact va_alen hx hb hK.2.1 q1.1 i t (z_ws_get he) hty (by rw [z_trA_len]) hd kk
/-! the script -/
noncomputable def zo_sald : zNop := fun sx _ _ _ _ k l st h => match st with
  | .int j :: .ref i :: st => if i = zS ∧ z_in j sx.1 = true then zn (k + 1) l (.int (sx.2 j.toNatClampNeg) :: st) h else none
  | _ => none
noncomputable def zk_sald : zCk := fun _ _ _ _ pc ins len _ nx k => match ins with
  | .iaload => decide (len = 1) && decide (nx (k + 1) = pc + 1)
  | _ => false
theorem zs_sald : z_Sn zo_sald zk_sald := by
  intro p l e R s m args below meth c Z D tc adK adV sb sx M nx ad0 n0 C S d Q a b ci k ins len pl hF hK hA hR hd hck lo st h k' lo' st' h' x y hop kc ks hW
  unfold zo_sald at hop
  split at hop
  case h_2 => cases hop
  next j i st2 =>
  by_cases hc : i = zS ∧ z_in j sx.1 = true
  case neg => rw [if_neg hc] at hop; cases hop
  rw [if_pos hc] at hop
  obtain ⟨rfl, hj⟩ := hc
  obtain ⟨rfl, rfl, rfl, rfl, rfl, rfl⟩ := zn_inj hop
  obtain ⟨hx, hb, hml, hr, hown, hts, -⟩ := hF
  intro ad H locs ls cells slots q1 q2 q3 q4 q5 q6 q7 q8 q9
  have kk := hW ad H locs ls cells slots q1 q2 q3 q4 q5 q6 (z_okC (z_okV_int _ _) (z_okT (z_okT q7))) q8 q9
  unfold zk_sald at hck
  split at hck
  case h_2 => cases hck
  simp only [Bool.and_eq_true, decide_eq_true_eq] at hck
  obtain ⟨rfl, hn⟩ := hck
  rw [hn] at kk
  obtain ⟨hZ, -, -, -, -, -, -, hX, hbZ, -⟩ := hK
  have e1 : ad zS = sb := by rw [q2 zS (Or.inr (by decide)), hA.2]
  show W p l e R s m args below meth c H locs cells slots Q (F0 m (nx k) ls (.int j :: .ref (ad zS) :: _))
  rw [e1]
  exact va_sld hx hb hX (by omega) (by show ¬ Z ≤ sb; omega) q4 (z_in_ok hj) hd kk
noncomputable def zo_slen : zNop := fun sx _ _ _ _ k l st h => match st with
  | .ref i :: st => if i = zS then zn (k + 1) l (.int (Int32.ofNat sx.1) :: st) h else none
  | _ => none
noncomputable def zk_slen : zCk := fun _ _ _ _ pc ins len _ nx k => match ins with
  | .arraylength => decide (len = 1) && decide (nx (k + 1) = pc + 1)
  | _ => false
theorem zs_slen : z_Sn zo_slen zk_slen := by
  intro p l e R s m args below meth c Z D tc adK adV sb sx M nx ad0 n0 C S d Q a b ci k ins len pl hF hK hA hR hd hck lo st h k' lo' st' h' x y hop kc ks hW
  unfold zo_slen at hop
  split at hop
  case h_2 => cases hop
  next i st2 =>
  by_cases hc : i = zS
  case neg => rw [if_neg hc] at hop; cases hop
  rw [if_pos hc] at hop
  subst hc
  obtain ⟨rfl, rfl, rfl, rfl, rfl, rfl⟩ := zn_inj hop
  obtain ⟨hx, hb, hml, hr, hown, hts, -⟩ := hF
  intro ad H locs ls cells slots q1 q2 q3 q4 q5 q6 q7 q8 q9
  have kk := hW ad H locs ls cells slots q1 q2 q3 q4 q5 q6 (z_okC (z_okV_int _ _) (z_okT q7)) q8 q9
  unfold zk_slen at hck
  split at hck
  case h_2 => cases hck
  simp only [Bool.and_eq_true, decide_eq_true_eq] at hck
  obtain ⟨rfl, hn⟩ := hck
  rw [hn] at kk
  obtain ⟨hZ, -, -, -, -, -, -, hX, hbZ, -⟩ := hK
  have e1 : ad zS = sb := by rw [q2 zS (Or.inr (by decide)), hA.2]
  show W p l e R s m args below meth c H locs cells slots Q (F0 m (nx k) ls (.ref (ad zS) :: _))
  rw [e1]
  exact va_slen hx hb hX (by omega) (by show ¬ Z ≤ sb; omega) q4 hd kk
/-! new cells -/
noncomputable def z_new (t : Nat) (n : Nat) : zE := match t with
  | 0 => .inl (0, (n, .inl (fun _ => 0)))
  | 1 => .inl (1, (n, .inl (fun _ => 0)))
  | _ => .inl (2, (n, .inr (.inl (fun _ => 0))))
noncomputable def zo_newa : zNop := fun _ _ a _ _ k l st h => match st with
  | .int n :: st => if ¬ n < 0 ∧ n.toNatClampNeg ≤ 65536 ∧ h.length < zB ∧ a < 3 then some (k + 1, l, .ref h.length :: st, h ++ [z_new a n.toNatClampNeg], 1, n.toNatClampNeg) else none
  | _ => none
noncomputable def zk_newa : zCk := fun _ a _ _ pc ins len pl nx k => match ins with
  | .newarray .int => decide (a = 0) && z_w (.arrayClass .int) (pl.getD 0 0) && decide (len = 2) && decide (nx (k + 1) = pc + 2)
  | .newarray .byte => decide (a = 1) && z_w (.arrayClass .byte) (pl.getD 0 0) && decide (len = 2) && decide (nx (k + 1) = pc + 2)
  | .newarray .long => decide (a = 2) && z_w (.arrayClass .long) (pl.getD 0 0) && decide (len = 2) && decide (nx (k + 1) = pc + 2)
  | _ => false
/-- behind a new cell: the abstract machine's state with one cell more -/
theorem z_W_new {p : Program} {l : Launch} {e : Env} {R : Room} {s : State} {m : MethodId} {args : Array Value} {below : List Frame} {meth : Method} {c : Code} {Z : Nat} {D : va_G} {tc : Nat → ClassId} {M : zMi} {nx : Nat → Nat} {ad0 : Nat → Nat} {n0 C S : Nat} {Q : State → Prop} {k : Nat} {lo : zL} {st : List Value} {h : zH} {x y kc ks : Nat} {E : zE}
    (hW : z_W p l e R s m args below meth c Z D tc M nx ad0 n0 C S Q k lo (.ref h.length :: st) (h ++ [E]) kc ks) {ad : Nat → Nat} {H H1 : Heap} {locs : List Loc} {ls : Array Slot} {cells slots q : Nat}
    (q1 : z_R Z D tc ad h H) (q2 : z_ag n0 ad0 ad) (q3 : n0 ≤ h.length) (q5 : lv_has ls M.2.2.2.1 (z_tl ad lo)) (q6 : ∀ q ∈ lo, z_okV h.length q.2) (q7 : ∀ v ∈ st, z_okV h.length v) (hn : h.length < zB) (hx : ∀ a b : Nat → Nat, z_trE a tc E = z_trE b tc E) (he : z_okE h.length E)
    (g1 : va_P D vwCl (z_ws ad tc h ++ [(q, z_trE ad tc E)]) H1) (g2 : va_D (fun q => Z ≤ q) (z_ws ad tc h ++ [(q, z_trE ad tc E)])) (g3 : va_S (fun q => Z ≤ q) s.heap H1 locs) (q8 : cells + x + kc = C) (q9 : slots + y + ks = S) :
    W p l e R s m args below meth c H1 locs (cells + x) (slots + y) Q (F0 m (nx k) ls (.ref q :: st.map (z_tr ad))) := by
  have hag : z_ag h.length ad (z_up ad h.length q) := z_up.ag hn
  have hlen : h.length ≤ (h ++ [E]).length := by rw [List.length_append]; omega
  have kk := hW (z_up ad h.length q) H1 locs ls (cells + x) (slots + y) (q1.push hn hx he g1 g2) (q2.trans hag q3) (by rw [List.length_append]; omega) g3 (by rw [z_tl_ag hag q6]; exact q5) (fun q hq => (q6 q hq).mono hlen) (z_okC (fun i hi => by cases hi; exact Or.inl (by simp)) (fun v hv => (q7 v hv).mono hlen)) q8 q9
  rw [List.map_cons, z_tr_ref, z_st_ag hag q7] at kk
  have e1 : z_up ad h.length q h.length = q := if_pos rfl
  rw [e1] at kk
  exact kk
theorem z_RA_one {U : State} {a b : ClassId} {ty : FieldType} (h1 : va_RA U a ty) (h2 : va_RA U b ty) : a = b := by
  cases ty with
  | object C =>
    obtain ⟨_, _, _, _, _, e1⟩ := h1
    obtain ⟨_, _, _, _, _, e2⟩ := h2
    exact Option.some.inj (e1.symm.trans e2)
  | _ => exact Option.some.inj (Eq.trans (Eq.symm h1) h2)
theorem zs_newa : z_Sn zo_newa zk_newa := by
  intro p l e R s m args below meth c Z D tc adK adV sb sx M nx ad0 n0 C S d Q a b ci k ins len pl hF hK hA hR hd hck lo st h k' lo' st' h' x y hop kc ks hW
  unfold zo_newa at hop
  split at hop
  case h_2 => cases hop
  next n st2 =>
  by_cases hc : ¬ n < 0 ∧ n.toNatClampNeg ≤ 65536 ∧ h.length < zB ∧ a < 3
  case neg => rw [if_neg hc] at hop; cases hop
  rw [if_pos hc] at hop
  obtain ⟨hn0, hn1, hlen, -⟩ := hc
  simp only [Option.some.injEq, Prod.mk.injEq] at hop
  obtain ⟨rfl, rfl, rfl, rfl, rfl, rfl⟩ := hop
  obtain ⟨hx, hb, hml, hr, hown, hts, -⟩ := hF
  intro ad H locs ls cells slots q1 q2 q3 q4 q5 q6 q7 q8 q9
  unfold zk_newa at hck
  split at hck
  case h_4 => cases hck
  · simp only [Bool.and_eq_true, decide_eq_true_eq] at hck
    obtain ⟨⟨⟨rfl, h1⟩, rfl⟩, hn⟩ := hck
    refine va_newa (atype := .int) (ty := .int) (a0 := (n.toNatClampNeg, .inl (fun _ => 0))) hx hb (hts _ (z_w_in h1)) rfl hK.2.1 q1.1 q1.2.1 q4 (fun q hq => Nat.le_trans hK.1 hq) (fun _ => rfl) hn0 rfl (by show n.toNatClampNeg * 4 ≤ 536870912; omega) (by have := hR.2.2.1; omega) (by have := hR.2.2.2; omega) hd fun q cA H1 g0 g1 g2 g3 => ?_
    have hcA := z_RA_one (hK.2.1.2 0 _ rfl).2 (g0.2 4 _ rfl).2
    subst hcA
    have kk := z_W_new (x := 1) (y := n.toNatClampNeg) (q := q) (cells := cells) (slots := slots) hW q1 q2 q3 q5 q6 (z_okT q7) hlen (fun _ _ => rfl) trivial g1 g2 g3 (by omega) (by omega)
    rw [hn] at kk
    exact kk
  · simp only [Bool.and_eq_true, decide_eq_true_eq] at hck
    obtain ⟨⟨⟨rfl, h1⟩, rfl⟩, hn⟩ := hck
    refine va_newa (atype := .byte) (ty := .byte) (a0 := (n.toNatClampNeg, .inl (fun _ => 0))) hx hb (hts _ (z_w_in h1)) rfl hK.2.1 q1.1 q1.2.1 q4 (fun q hq => Nat.le_trans hK.1 hq) (fun _ => rfl) hn0 rfl (by show n.toNatClampNeg * 1 ≤ 536870912; omega) (by have := hR.2.2.1; omega) (by have := hR.2.2.2; omega) hd fun q cA H1 g0 g1 g2 g3 => ?_
    have hcA := z_RA_one (hK.2.1.2 1 _ rfl).2 (g0.2 4 _ rfl).2
    subst hcA
    have kk := z_W_new (x := 1) (y := n.toNatClampNeg) (q := q) (cells := cells) (slots := slots) hW q1 q2 q3 q5 q6 (z_okT q7) hlen (fun _ _ => rfl) trivial g1 g2 g3 (by omega) (by omega)
    rw [hn] at kk
    exact kk
  · simp only [Bool.and_eq_true, decide_eq_true_eq] at hck
    obtain ⟨⟨⟨rfl, h1⟩, rfl⟩, hn⟩ := hck
    refine va_newa (atype := .long) (ty := .long) (a0 := (n.toNatClampNeg, .inr (.inl (fun _ => 0)))) hx hb (hts _ (z_w_in h1)) rfl hK.2.1 q1.1 q1.2.1 q4 (fun q hq => Nat.le_trans hK.1 hq) (fun _ => rfl) hn0 rfl (by show n.toNatClampNeg * 8 ≤ 536870912; omega) (by have := hR.2.2.1; omega) (by have := hR.2.2.2; omega) hd fun q cA H1 g0 g1 g2 g3 => ?_
    have hcA := z_RA_one (hK.2.1.2 2 _ rfl).2 (g0.2 4 _ rfl).2
    subst hcA
    have kk := z_W_new (x := 1) (y := n.toNatClampNeg) (q := q) (cells := cells) (slots := slots) hW q1 q2 q3 q5 q6 (z_okT q7) hlen (fun _ _ => rfl) trivial g1 g2 g3 (by omega) (by omega)
    rw [hn] at kk
    exact kk
noncomputable def zo_anew : zNop := fun _ _ _ _ _ k l st h => match st with
  | .int n :: st => if ¬ n < 0 ∧ n.toNatClampNeg ≤ 65536 ∧ h.length < zB then some (k + 1, l, .ref h.length :: st, h ++ [.inl (3, (n.toNatClampNeg, .inr (.inr (.inr (.inr (fun _ => none))))))], 1, n.toNatClampNeg) else none
  | _ => none
noncomputable def zk_anew : zCk := fun M _ _ _ pc ins len pl nx k => match ins with
  | .anewarray idx => z_w (.classLink M.1 idx RX2) (pl.getD 0 0) && decide (len = 3) && decide (nx (k + 1) = pc + 3)
  | _ => false
theorem zs_anew : z_Sn zo_anew zk_anew := by
  intro p l e R s m args below meth c Z D tc adK adV sb sx M nx ad0 n0 C S d Q a b ci k ins len pl hF hK hA hR hd hck lo st h k' lo' st' h' x y hop kc ks hW
  unfold zo_anew at hop
  split at hop
  case h_2 => cases hop
  next n st2 =>
  by_cases hc : ¬ n < 0 ∧ n.toNatClampNeg ≤ 65536 ∧ h.length < zB
  case neg => rw [if_neg hc] at hop; cases hop
  rw [if_pos hc] at hop
  obtain ⟨hn0, hn1, hlen⟩ := hc
  simp only [Option.some.injEq, Prod.mk.injEq] at hop
  obtain ⟨rfl, rfl, rfl, rfl, rfl, rfl⟩ := hop
  obtain ⟨hx, hb, hml, hr, hown, hts, -⟩ := hF
  intro ad H locs ls cells slots q1 q2 q3 q4 q5 q6 q7 q8 q9
  unfold zk_anew at hck
  split at hck
  case h_2 => cases hck
  next idx =>
  simp only [Bool.and_eq_true, decide_eq_true_eq] at hck
  obtain ⟨⟨h1, rfl⟩, hn⟩ := hck
  refine va_newq hx hb hown (hts _ (z_w_in h1)) hK.2.2.2.2.2.2.1 hK.2.1 q1.1 q1.2.1 q4 (fun q hq => Nat.le_trans hK.1 hq) hn0 rfl (by omega) (by have := hR.2.2.1; omega) (by have := hR.2.2.2; omega) hd fun q cA H1 g0 g1 g2 g3 => ?_
  have hcA := z_RA_one (hK.2.1.2 3 _ rfl).2 (g0.2 4 _ rfl).2
  subst hcA
  have kk := z_W_new (x := 1) (y := n.toNatClampNeg) (q := q) (cells := cells) (slots := slots) hW q1 q2 q3 q5 q6 (z_okT q7) hlen (fun _ _ => rfl) (fun _ _ h9 => by cases h9) g1 g2 g3 (by omega) (by omega)
  rw [hn] at kk
  exact kk
theorem z_df_tr (ad : Nat → Nat) : ∀ ci, (z_df.getD ci []).map (z_tr ad) = z_df.getD ci [] := by
  intro ci
  match ci with
  | 0 | 1 | 2 | 3 | 4 | 5 | 6 | 7 | 8 | 9 => rfl
  | n + 10 => simp [z_df]
theorem z_df_ok (n : Nat) : ∀ ci, ∀ v ∈ z_df.getD ci [], z_okV n v := by
  have h : z_df.all (fun l => l.all (fun v => match v with | .ref _ => false | _ => true)) = true := by decide
  intro ci v hv
  intro i hi
  subst hi
  cases hc : z_df[ci]? with
  | none => simp [List.getD, hc] at hv
  | some l =>
    rw [List.getD, hc] at hv
    have h1 := List.all_eq_true.mp h l (List.mem_of_getElem? hc)
    have h2 := List.all_eq_true.mp h1 _ hv
    cases h2
noncomputable def zo_new : zNop := fun _ _ a _ _ k l st h => if h.length < zB then (match vwCl[a]? with
  | some q => some (k + 1, l, .ref h.length :: st, h ++ [.inr (a, z_df.getD a [])], 1, q.2.2)
  | none => none) else none
noncomputable def zk_new : zCk := fun M a _ _ pc ins len pl nx k => match ins with
  | .new idx => decide (len = 3) && decide (nx (k + 1) = pc + 3) && (match vwCl[a]? with
    | some q => z_w (.classLink M.1 idx q.1) (pl.getD 0 0) && z_w (.instantiable q.1 q.2.2) (pl.getD 1 0) && z_w (.initialized q.1) (pl.getD 2 0)
    | none => false)
  | _ => false
theorem zs_new : z_Sn zo_new zk_new := by
  intro p l e R s m args below meth c Z D tc adK adV sb sx M nx ad0 n0 C S d Q a b ci k ins len pl hF hK hA hR hd hck lo st h k' lo' st' h' x y hop kc ks hW
  unfold zo_new at hop
  by_cases hlen : h.length < zB
  case neg => rw [if_neg hlen] at hop; cases hop
  rw [if_pos hlen] at hop
  split at hop
  case h_2 => cases hop
  next q hq =>
  simp only [Option.some.injEq, Prod.mk.injEq] at hop
  obtain ⟨rfl, rfl, rfl, rfl, rfl, rfl⟩ := hop
  obtain ⟨hx, hb, hml, hr, hown, hts, -⟩ := hF
  intro ad H locs ls cells slots q1 q2 q3 q4 q5 q6 q7 q8 q9
  unfold zk_new at hck
  split at hck
  case h_2 => cases hck
  next idx =>
  rw [hq] at hck
  simp only [Bool.and_eq_true, decide_eq_true_eq] at hck
  obtain ⟨⟨rfl, hn⟩, ⟨⟨h1, h2⟩, h3⟩⟩ := hck
  obtain ⟨hin, ty, hty, -, hdf⟩ := z_cls a q hq
  refine va_new (C := q.1) (T := q.2.1) (N := q.2.2) (fs := (z_df.getD a []).map (z_tr ad)) hx hb hts hin ty hty hown (hts _ (z_w_in h1)) (hts _ (z_w_in h2)) (hts _ (z_w_in h3)) hK.2.1 q1.1 q1.2.1 q4 (fun q hq => Nat.le_trans hK.1 hq) hq (by rw [z_df_tr]; exact hdf) (by have := hR.2.2.1; omega) (by have := hR.2.2.2; omega) hd fun qa H1 g1 g2 g3 => ?_
  have kk := z_W_new (x := 1) (y := q.2.2) (q := qa) (cells := cells) (slots := slots) hW q1 q2 q3 q5 q6 q7 hlen (fun x y => by show Sum.inr (a, _) = Sum.inr (a, _); rw [z_df_tr, z_df_tr]) (z_df_ok _ a) g1 g2 g3 (by omega) (by omega)
  rw [hn] at kk
  exact kk
end
section
theorem dJ0_length_8abf5_0 : decode cJ0_length_8abf5 0 = .ok (.aload_n 0, 1) := by decide +kernel
theorem dJ0_length_8abf5_1 : decode cJ0_length_8abf5 1 = .ok (.getfield 9, 3) := by decide +kernel
theorem dJ0_length_8abf5_4 : decode cJ0_length_8abf5 4 = .ok (.arraylength, 1) := by decide +kernel
theorem dJ0_length_8abf5_5 : decode cJ0_length_8abf5 5 = .ok (.aload_n 0, 1) := by decide +kernel
theorem dJ0_length_8abf5_6 : decode cJ0_length_8abf5 6 = .ok (.invokevirtual 335, 3) := by decide +kernel
theorem dJ0_length_8abf5_9 : decode cJ0_length_8abf5 9 = .ok (.ishr, 1) := by decide +kernel
theorem dJ0_length_8abf5_10 : decode cJ0_length_8abf5 10 = .ok (.ireturn, 1) := by decide +kernel
theorem dJ0_charAt_5068e_0 : decode cJ0_charAt_5068e 0 = .ok (.aload_n 0, 1) := by decide +kernel
theorem dJ0_charAt_5068e_1 : decode cJ0_charAt_5068e 1 = .ok (.invokevirtual 492, 3) := by decide +kernel
theorem dJ0_charAt_5068e_4 : decode cJ0_charAt_5068e 4 = .ok (.ifCond .eq 12, 3) := by decide +kernel
theorem dJ0_charAt_5068e_7 : decode cJ0_charAt_5068e 7 = .ok (.aload_n 0, 1) := by decide +kernel
theorem dJ0_charAt_5068e_8 : decode cJ0_charAt_5068e 8 = .ok (.getfield 9, 3) := by decide +kernel
theorem dJ0_charAt_5068e_11 : decode cJ0_charAt_5068e 11 = .ok (.iload_n 1, 1) := by decide +kernel
theorem dJ0_charAt_5068e_12 : decode cJ0_charAt_5068e 12 = .ok (.invokestatic 495, 3) := by decide +kernel
theorem dJ0_charAt_5068e_15 : decode cJ0_charAt_5068e 15 = .ok (.ireturn, 1) := by decide +kernel
theorem dJ0_charAt_5068e_16 : decode cJ0_charAt_5068e 16 = .ok (.aload_n 0, 1) := by decide +kernel
theorem dJ0_charAt_5068e_17 : decode cJ0_charAt_5068e 17 = .ok (.getfield 9, 3) := by decide +kernel
theorem dJ0_charAt_5068e_20 : decode cJ0_charAt_5068e 20 = .ok (.iload_n 1, 1) := by decide +kernel
theorem dJ0_charAt_5068e_21 : decode cJ0_charAt_5068e 21 = .ok (.invokestatic 498, 3) := by decide +kernel
theorem dJ0_charAt_5068e_24 : decode cJ0_charAt_5068e 24 = .ok (.ireturn, 1) := by decide +kernel
theorem dJ0_coder_7d493_0 : decode cJ0_coder_7d493 0 = .ok (.getstatic 38, 3) := by decide +kernel
theorem dJ0_coder_7d493_3 : decode cJ0_coder_7d493 3 = .ok (.ifCond .eq 10, 3) := by decide +kernel
theorem dJ0_coder_7d493_6 : decode cJ0_coder_7d493 6 = .ok (.aload_n 0, 1) := by decide +kernel
theorem dJ0_coder_7d493_7 : decode cJ0_coder_7d493 7 = .ok (.getfield 15, 3) := by decide +kernel
theorem dJ0_coder_7d493_10 : decode cJ0_coder_7d493 10 = .ok (.goto 4, 3) := by decide +kernel
theorem dJ0_coder_7d493_13 : decode cJ0_coder_7d493 13 = .ok (.iconst 1, 1) := by decide +kernel
theorem dJ0_coder_7d493_14 : decode cJ0_coder_7d493 14 = .ok (.ireturn, 1) := by decide +kernel
theorem dJ0_isLatin1_aae02_0 : decode cJ0_isLatin1_aae02 0 = .ok (.getstatic 38, 3) := by decide +kernel
theorem dJ0_isLatin1_aae02_3 : decode cJ0_isLatin1_aae02 3 = .ok (.ifCond .eq 14, 3) := by decide +kernel
theorem dJ0_isLatin1_aae02_6 : decode cJ0_isLatin1_aae02 6 = .ok (.aload_n 0, 1) := by decide +kernel
theorem dJ0_isLatin1_aae02_7 : decode cJ0_isLatin1_aae02 7 = .ok (.getfield 15, 3) := by decide +kernel
theorem dJ0_isLatin1_aae02_10 : decode cJ0_isLatin1_aae02 10 = .ok (.ifCond .ne 7, 3) := by decide +kernel
theorem dJ0_isLatin1_aae02_13 : decode cJ0_isLatin1_aae02 13 = .ok (.iconst 1, 1) := by decide +kernel
theorem dJ0_isLatin1_aae02_14 : decode cJ0_isLatin1_aae02 14 = .ok (.goto 4, 3) := by decide +kernel
theorem dJ0_isLatin1_aae02_17 : decode cJ0_isLatin1_aae02 17 = .ok (.iconst 0, 1) := by decide +kernel
theorem dJ0_isLatin1_aae02_18 : decode cJ0_isLatin1_aae02 18 = .ok (.ireturn, 1) := by decide +kernel
theorem dJ0_checkIndex_df160_0 : decode cJ0_checkIndex_df160 0 = .ok (.iload_n 0, 1) := by decide +kernel
theorem dJ0_checkIndex_df160_1 : decode cJ0_checkIndex_df160 1 = .ok (.iload_n 1, 1) := by decide +kernel
theorem dJ0_checkIndex_df160_2 : decode cJ0_checkIndex_df160 2 = .ok (.getstatic 1053, 3) := by decide +kernel
theorem dJ0_checkIndex_df160_5 : decode cJ0_checkIndex_df160 5 = .ok (.invokestatic 1059, 3) := by decide +kernel
theorem dJ0_checkIndex_df160_8 : decode cJ0_checkIndex_df160 8 = .ok (.pop, 1) := by decide +kernel
theorem dJ0_checkIndex_df160_9 : decode cJ0_checkIndex_df160 9 = .ok (.return_, 1) := by decide +kernel
theorem dJ1_charAt_3b067_0 : decode cJ1_charAt_3b067 0 = .ok (.iload_n 1, 1) := by decide +kernel
theorem dJ1_charAt_3b067_1 : decode cJ1_charAt_3b067 1 = .ok (.aload_n 0, 1) := by decide +kernel
theorem dJ1_charAt_3b067_2 : decode cJ1_charAt_3b067 2 = .ok (.arraylength, 1) := by decide +kernel
theorem dJ1_charAt_3b067_3 : decode cJ1_charAt_3b067 3 = .ok (.invokestatic 9, 3) := by decide +kernel
theorem dJ1_charAt_3b067_6 : decode cJ1_charAt_3b067 6 = .ok (.aload_n 0, 1) := by decide +kernel
theorem dJ1_charAt_3b067_7 : decode cJ1_charAt_3b067 7 = .ok (.iload_n 1, 1) := by decide +kernel
theorem dJ1_charAt_3b067_8 : decode cJ1_charAt_3b067 8 = .ok (.baload, 1) := by decide +kernel
theorem dJ1_charAt_3b067_9 : decode cJ1_charAt_3b067 9 = .ok (.sipush 255, 3) := by decide +kernel
theorem dJ1_charAt_3b067_12 : decode cJ1_charAt_3b067 12 = .ok (.iand, 1) := by decide +kernel
theorem dJ1_charAt_3b067_13 : decode cJ1_charAt_3b067 13 = .ok (.i2c, 1) := by decide +kernel
theorem dJ1_charAt_3b067_14 : decode cJ1_charAt_3b067 14 = .ok (.ireturn, 1) := by decide +kernel
theorem dJ3_checkIndex_8e157_0 : decode cJ3_checkIndex_8e157 0 = .ok (.iload_n 0, 1) := by decide +kernel
theorem dJ3_checkIndex_8e157_1 : decode cJ3_checkIndex_8e157 1 = .ok (.ifCond .lt 8, 3) := by decide +kernel
theorem dJ3_checkIndex_8e157_4 : decode cJ3_checkIndex_8e157 4 = .ok (.iload_n 0, 1) := by decide +kernel
theorem dJ3_checkIndex_8e157_5 : decode cJ3_checkIndex_8e157 5 = .ok (.iload_n 1, 1) := by decide +kernel
theorem dJ3_checkIndex_8e157_6 : decode cJ3_checkIndex_8e157 6 = .ok (.if_icmp .lt 10, 3) := by decide +kernel
theorem dJ3_checkIndex_8e157_9 : decode cJ3_checkIndex_8e157 9 = .ok (.aload_n 2, 1) := by decide +kernel
theorem dJ3_checkIndex_8e157_10 : decode cJ3_checkIndex_8e157 10 = .ok (.iload_n 0, 1) := by decide +kernel
theorem dJ3_checkIndex_8e157_11 : decode cJ3_checkIndex_8e157 11 = .ok (.iload_n 1, 1) := by decide +kernel
theorem dJ3_checkIndex_8e157_12 : decode cJ3_checkIndex_8e157 12 = .ok (.invokestatic 95, 3) := by decide +kernel
theorem dJ3_checkIndex_8e157_15 : decode cJ3_checkIndex_8e157 15 = .ok (.athrow, 1) := by decide +kernel
theorem dJ3_checkIndex_8e157_16 : decode cJ3_checkIndex_8e157 16 = .ok (.iload_n 0, 1) := by decide +kernel
theorem dJ3_checkIndex_8e157_17 : decode cJ3_checkIndex_8e157 17 = .ok (.ireturn, 1) := by decide +kernel
/-! texts: the JDK's own methods, by contract -/
theorem z_Nc_moved {C T : String} {u U : State} (hvm : u.vm.Alike U.vm) (h : va_Nc C T u) : va_Nc C T U := by
  first
    | exact va_Nc.moved hvm h
    | (obtain ⟨c, t, h1, h2, h3⟩ := h
       exact ⟨c, t, by rw [hvm.findClass]; exact h1, by rw [hvm.findClass]; exact h2, by rw [← hvm.assignable]; exact h3⟩)
/-- the context in a state that has the same tables and, below Z, the same cells -/
theorem z_K.at {l : Launch} {Z : Nat} {D : va_G} {tc : Nat → ClassId} {adK adV : Nat → Nat} {sb : Nat} {sx : zX} {s U : State} {H : Heap} {locs : List Loc} (h : z_K l Z D tc adK adV sb sx s) (hS : va_S (fun q => Z ≤ q) s.heap H locs) (hU : U.heap = H) (hW : s.WarmedH U.vm) : z_K l Z D tc adK adV sb sx U := by
  obtain ⟨h1, h2, h3, h4, h5, h6, h7, h8, h9, h10, h11, h12, h13, h14, h15⟩ := h
  subst hU
  have hvm := hW.alike
  refine ⟨Nat.le_trans h1 hS.1, va_K.moved hvm h2, fun k q hq => ⟨vk_R.warm hW (h3 k q hq).1, (vk_S.moved hvm (h3 k q hq).2).kept hS.2.1⟩, (vx_Zq.moved hvm h4).kept hS.2.1, (vx_Zq.moved hvm h5).kept hS.2.1, fun w hw => ?_, va_AO.moved hvm h7, (va_X.moved hvm h8).kept (hS.2.1 sb (by omega) (by show ¬ Z ≤ sb; omega)), h9, h10, (va_Z.moved hvm h11).kept hS.2.1, (va_Zq.moved hvm h12).kept hS.2.1, va_Nw.warmC hW h13, fun a ha b hb hab => z_Nc_moved hvm (h14 a ha b hb hab), fun w hw => ?_⟩
  rotate_left
  · have h15' := h15 w hw
    simp only [z_xw, List.mem_cons, List.not_mem_nil, or_false] at hw
    rcases hw with rfl | rfl | rfl | rfl | rfl | rfl | rfl | rfl <;> first | exact va_Nw.warmC hW h15' | exact va_Nw.warmD hW h15'
  have h6' := h6 w hw
  simp only [z_nest, List.mem_cons, List.not_mem_nil, or_false] at hw
  rcases hw with rfl | rfl | rfl | rfl | rfl <;> exact va_Nw.warmM hW h6'
theorem z_K.call {l : Launch} {Z : Nat} {D : va_G} {tc : Nat → ClassId} {adK adV : Nat → Nat} {sb : Nat} {sx : zX} {U : State} (g : JFrame) (mk : MethodId) (a : Array Value) (h : z_K l Z D tc adK adV sb sx U) : z_K l Z D tc adK adV sb sx (U.calling g mk a) := by
  obtain ⟨h1, h2, h3, h4, h5, h6, h7, h8, h9, h10, h11, h12, h13, h14, h15⟩ := h
  have hvm : U.vm.Alike (U.calling g mk a).vm := Vm.Alike.refl U.vm
  refine ⟨h1, va_K.moved (u := U) (U := U.calling g mk a) hvm h2, fun k q hq => ⟨vk_R.same (u := U) (U := U.calling g mk a) rfl (h3 k q hq).1, vk_S.moved (u := U) (U := U.calling g mk a) hvm (h3 k q hq).2⟩, vx_Zq.moved (u := U) (U := U.calling g mk a) hvm h4, vx_Zq.moved (u := U) (U := U.calling g mk a) hvm h5, fun w hw => ?_, va_AO.moved (u := U) (U := U.calling g mk a) hvm h7, va_X.moved (u := U) (U := U.calling g mk a) hvm h8, h9, h10, va_Z.moved (u := U) (U := U.calling g mk a) hvm h11, va_Zq.moved (u := U) (U := U.calling g mk a) hvm h12, va_Nw.same rfl (u := U) rfl h13, fun a9 ha b hb hab => z_Nc_moved (u := U) (U := U.calling g mk a) hvm (h14 a9 ha b hb hab), fun w hw => ?_⟩
  rotate_left
  · have h15' := h15 w hw
    simp only [z_xw, List.mem_cons, List.not_mem_nil, or_false] at hw
    rcases hw with rfl | rfl | rfl | rfl | rfl | rfl | rfl | rfl <;> exact va_Nw.same rfl (u := U) rfl h15'
  have h6' := h6 w hw
  simp only [z_nest, List.mem_cons, List.not_mem_nil, or_false] at hw
  rcases hw with rfl | rfl | rfl | rfl | rfl <;> exact va_Nw.same rfl (u := U) rfl h6'
noncomputable def z_P1 (l : Launch) (Z : Nat) (D : va_G) (tc : Nat → ClassId) (adK adV : Nat → Nat) (sb : Nat) (sx : zX) (as : List Value) : Array Value → State → Prop := va_Pc as (fun U => z_K l Z D tc adK adV sb sx U)
noncomputable def z_Qp (r : Option Value) : Array Value → State → Outcome → State → Prop := fun _ st oc t => oc = .returned r ∧ t.heap = st.heap
noncomputable def z_rm (d kc ks : Nat) : Room := { frames := d, cells := kc, slots := ks, locals := 60 * d }
theorem z_good {ws : List Cond} (h : ∀ w ∈ ws, w ∈ z_T) : GoodIn z_T ws := fun w hw => ⟨h w hw, good_of_word (List.mem_filter.mp (h w hw)).2⟩
theorem z_P1_blind {l : Launch} {Z : Nat} {D : va_G} {tc : Nat → ClassId} {adK adV : Nat → Nat} {sb : Nat} {sx : zX} {as : List Value} : FrameBlind (z_P1 l Z D tc adK adV sb sx as) := fun a U g mk q => ⟨q.1, q.2.call g mk a⟩
section ZP
variable {p : Program} {l : Launch} {e : Env} {R : Room} {s : State} {m : MethodId} {args : Array Value} {below : List Frame} {meth : Method} {c : Code} {H : Heap} {locs : List Loc} {cells slots : Nat} {Q : State → Prop} {pc : Nat} {ls : Array Slot} {st0 rest : List Value} {a : Array Value}
/-- a call that leaves the heap as it is -/
theorem z_callp {r : Option Value} (hr : va_Run p l e R s m args below meth c H locs cells slots 0 0 (F0 m pc ls st0) rest (z_Qp r a) (fun _ => False)) (kk : W p l e R s m args below meth c H locs cells slots Q (F0 m (pc + 3) ls (r.toList ++ rest))) : W p l e R s m args below meth c H locs cells slots Q (F0 m pc ls st0) := by
  intro T hT X
  obtain ⟨v, st₀, t, T', L, h0, X', hL, e1, e2, ⟨hv, hh⟩, st⟩ := hr T hT X
  cases hv
  have hL0 : L = [] := by
    cases L with
    | nil => rfl
    | cons q L => exact (hL q List.mem_cons_self).elim
  subst hL0
  rw [List.append_nil] at X'
  obtain ⟨t2, a1, b1⟩ := kk T' (by rw [e1, hh, h0]) X'
  exact ⟨t2, st t2 a1, b1⟩
end ZP
set_option maxHeartbeats 4000000 in
set_option maxRecDepth 100000 in
theorem zc_coder (l : Launch) (Z : Nat) (D : va_G) (tc : Nat → ClassId) (adK adV : Nat → Nat) (sb : Nat) (sx : zX) (k : Nat) (q : String × Nat × String × List Int32) (hq : z_strs[k]? = some q) : Met l yJ0_coder_7d493 (.code yJ0_coder_7d493 cJ0_coder_7d493 1 (some .byte) :: z_T) (z_rm 0 0 0) (z_P1 l Z D tc adK adV sb sx [.ref (adK k)]) (z_Qp (some (.int 0))) 0 0 (fun _ => False) := by
  refine Met.ofW (cc := cJ0_coder_7d493) (maxL := 1) (ret := (some .byte)) (by decide) rfl ?_
  intro p e s m args below meth c s₁ B hml hv
  obtain ⟨rfl, hK⟩ := hv
  have hx := B.exec
  have hb := B.bytes
  have hr := B.returns
  have hts0 := atoms_spec B.pre
  have hts : ∀ w ∈ z_T, w.before _ s = true := fun w hw => hts0 w (List.mem_cons_of_mem _ hw)
  have hown := findClass_of_methodNamed B.named
  have hlocks := B.notSynchronized
  have hS : va_S (fun q => Z ≤ q) s.heap s.heap [] := va_S.rf
  have hl := lv_entry ([.ref (adK k)]) (n := 1) (Nat.le_of_ble_eq_true rfl)
  rw [lg_entry_eq]
  generalize (lg_sl ([.ref (adK k)]) ++ List.replicate (1 - (lg_sl ([.ref (adK k)])).length) Slot.unset).toArray = ls at hl ⊢
  have hSg := (hK.2.2.1 k q hq).2.1 0 (by decide)
  have hl : lv_has ls 1 [(0, .ref (adK k))] := hl
  refine va_gets (pc := 0) hx hb hK.2.2.2.2.2.2.2.2.2.2.1 hS hown (hts (.fieldLink "java/lang/String" 38 "java/lang/String" "COMPACT_STRINGS" "Z") (z_w_in (i := 663) (by decide +kernel))) (fun _ h9 => h9) dJ0_coder_7d493_0 ?_
  refine lv_if_eq (tgt := 13) hx hb dJ0_coder_7d493_3 (by decide) (fun h9 => by cases h9) (fun _ => ?_)
  refine lv_aload_n hx hb (k := 0) (i := 0) dJ0_coder_7d493_6 rfl (lv_at hl 0 rfl) ?_
  refine vk_getf hx hb hSg.2.1 hS hown (hts (.fieldLink "java/lang/String" 15 "java/lang/String" "coder" "B") (z_w_in (i := 2110) (by decide +kernel))) (fun _ h9 => h9) dJ0_coder_7d493_7 ?_
  refine lv_goto (tgt := 14) hx hb dJ0_coder_7d493_10 (by decide) ?_
  exact W.zret hx hb hr rfl (fun t ht _ => ⟨rfl, ht⟩) (fun _ h => by cases h) dJ0_coder_7d493_14
set_option maxHeartbeats 4000000 in
set_option maxRecDepth 100000 in
theorem zc_isLatin1 (l : Launch) (Z : Nat) (D : va_G) (tc : Nat → ClassId) (adK adV : Nat → Nat) (sb : Nat) (sx : zX) (k : Nat) (q : String × Nat × String × List Int32) (hq : z_strs[k]? = some q) : Met l yJ0_isLatin1_aae02 (.code yJ0_isLatin1_aae02 cJ0_isLatin1_aae02 1 (some .boolean) :: z_T) (z_rm 0 0 0) (z_P1 l Z D tc adK adV sb sx [.ref (adK k)]) (z_Qp (some (.int 1))) 0 0 (fun _ => False) := by
  refine Met.ofW (cc := cJ0_isLatin1_aae02) (maxL := 1) (ret := (some .boolean)) (by decide) rfl ?_
  intro p e s m args below meth c s₁ B hml hv
  obtain ⟨rfl, hK⟩ := hv
  have hx := B.exec
  have hb := B.bytes
  have hr := B.returns
  have hts0 := atoms_spec B.pre
  have hts : ∀ w ∈ z_T, w.before _ s = true := fun w hw => hts0 w (List.mem_cons_of_mem _ hw)
  have hown := findClass_of_methodNamed B.named
  have hlocks := B.notSynchronized
  have hS : va_S (fun q => Z ≤ q) s.heap s.heap [] := va_S.rf
  have hl := lv_entry ([.ref (adK k)]) (n := 1) (Nat.le_of_ble_eq_true rfl)
  rw [lg_entry_eq]
  generalize (lg_sl ([.ref (adK k)]) ++ List.replicate (1 - (lg_sl ([.ref (adK k)])).length) Slot.unset).toArray = ls at hl ⊢
  have hSg := (hK.2.2.1 k q hq).2.1 0 (by decide)
  have hl : lv_has ls 1 [(0, .ref (adK k))] := hl
  refine va_gets (pc := 0) hx hb hK.2.2.2.2.2.2.2.2.2.2.1 hS hown (hts (.fieldLink "java/lang/String" 38 "java/lang/String" "COMPACT_STRINGS" "Z") (z_w_in (i := 663) (by decide +kernel))) (fun _ h9 => h9) dJ0_isLatin1_aae02_0 ?_
  refine lv_if_eq (tgt := 17) hx hb dJ0_isLatin1_aae02_3 (by decide) (fun h9 => by cases h9) (fun _ => ?_)
  refine lv_aload_n hx hb (k := 0) (i := 0) dJ0_isLatin1_aae02_6 rfl (lv_at hl 0 rfl) ?_
  refine vk_getf hx hb hSg.2.1 hS hown (hts (.fieldLink "java/lang/String" 15 "java/lang/String" "coder" "B") (z_w_in (i := 2110) (by decide +kernel))) (fun _ h9 => h9) dJ0_isLatin1_aae02_7 ?_
  refine lv_if_ne (tgt := 17) hx hb dJ0_isLatin1_aae02_10 (by decide) (fun h9 => absurd rfl h9) (fun _ => ?_)
  refine lv_iconst (v := 1) hx hb (n := 1) dJ0_isLatin1_aae02_13 (by decide) ?_
  refine lv_goto (tgt := 18) hx hb dJ0_isLatin1_aae02_14 (by decide) ?_
  exact W.zret hx hb hr rfl (fun t ht _ => ⟨rfl, ht⟩) (fun _ h => by cases h) dJ0_isLatin1_aae02_18
/-- the words of a static call -/
theorem z_cwS {R : Room} {s : State} {args : Array Value} {own : String} {index maxL mc ms : Nat} {y : MethodName} {bytes : ByteArray} {ret : Option FieldType} {rm : Room} (n : Nat) (ht : ∀ w ∈ z_T, w.before args s = true) (h1 : Cond.methodLink own index y ∈ z_T) (h2 : Cond.static y ∈ z_T) (h3 : Cond.initialized y.cls ∈ z_T) (h4 : Cond.code y bytes maxL ret ∈ z_T) (hrc : rm.cells = mc) (hrs : rm.slots = ms)
    (hd : y.cls ≠ "java/lang/invoke/MethodHandle" ∧ y.cls ≠ "java/lang/invoke/VarHandle" ∧ (parseMethodDescriptor y.desc).map (fun d => d.parameters.length) = some n) (hR : rm.frames + 1 ≤ R.frames ∧ 8 + (maxL + 11) + rm.locals ≤ R.locals) : CallB R s args own index y bytes maxL ret (.code y bytes maxL ret :: z_T) rm mc ms n ∧ (Cond.static y).before args s = true := by
  have hG : GoodIn z_T (.code y bytes maxL ret :: z_T) := z_good (fun w hw => by
    rcases List.mem_cons.mp hw with rfl | h
    · exact h4
    · exact h)
  exact ⟨callB_of n ht hG rfl hrc hrs (ht _ h3) (ht _ h1) hd hR, ht _ h2⟩
set_option maxHeartbeats 4000000 in
set_option maxRecDepth 100000 in
theorem zc_length (l : Launch) (Z : Nat) (D : va_G) (tc : Nat → ClassId) (adK adV : Nat → Nat) (sb : Nat) (sx : zX) (k : Nat) (q : String × Nat × String × List Int32) (hq : z_strs[k]? = some q) (hlen : q.2.2.2.length < 2 ^ 31) : Met l yJ0_length_8abf5 (.code yJ0_length_8abf5 cJ0_length_8abf5 1 (some .int) :: z_T) (z_rm 1 0 0) (z_P1 l Z D tc adK adV sb sx [.ref (adK k)]) (z_Qp (some (.int (Int32.ofNat q.2.2.2.length)))) 0 0 (fun _ => False) := by
  refine Met.ofW (cc := cJ0_length_8abf5) (maxL := 1) (ret := (some .int)) (by decide) rfl ?_
  intro p e s m args below meth c s₁ B hml hv
  obtain ⟨rfl, hK⟩ := hv
  have hx := B.exec
  have hb := B.bytes
  have hr := B.returns
  have hts0 := atoms_spec B.pre
  have hts : ∀ w ∈ z_T, w.before _ s = true := fun w hw => hts0 w (List.mem_cons_of_mem _ hw)
  have hown := findClass_of_methodNamed B.named
  have hlocks := B.notSynchronized
  have hS : va_S (fun q => Z ≤ q) s.heap s.heap [] := va_S.rf
  have hl := lv_entry ([.ref (adK k)]) (n := 1) (Nat.le_of_ble_eq_true rfl)
  rw [lg_entry_eq]
  generalize (lg_sl ([.ref (adK k)]) ++ List.replicate (1 - (lg_sl ([.ref (adK k)])).length) Slot.unset).toArray = ls at hl ⊢
  have hSg := (hK.2.2.1 k q hq).2.1 0 (by decide)
  have hl : lv_has ls 1 [(0, .ref (adK k))] := hl
  refine lv_aload_n (pc := 0) hx hb (k := 0) (i := 0) dJ0_length_8abf5_0 rfl (lv_at hl 0 rfl) ?_
  refine vk_getf hx hb hSg.2.2.1 hS hown (hts (.fieldLink "java/lang/String" 9 "java/lang/String" "value" "[B") (z_w_in (i := 2109) (by decide +kernel))) (fun _ h9 => h9) dJ0_length_8abf5_1 ?_
  refine va_tlen hx hb hSg.2.2.2 hS (v := Int32.ofNat q.2.2.2.length) rfl dJ0_length_8abf5_4 ?_
  refine lv_aload_n hx hb (k := 0) (i := 0) dJ0_length_8abf5_5 rfl (lv_at hl 0 rfl) ?_
  refine z_callp (va_runV (As := []) (rest := [.int (Int32.ofNat q.2.2.2.length)]) ⟨hx, hb, hml, hown, hts⟩ (zc_coder l Z D tc adK adV sb sx k q hq) (cwV 0 hts (z_good (ws := wsV RJ0 335 RJ0 yJ0_coder_7d493 (.code yJ0_coder_7d493 cJ0_coder_7d493 1 (some .byte) :: z_T)) (fun w hw => by
      rcases List.mem_append.mp hw with h | h
      · simp only [List.mem_cons, List.not_mem_nil, or_false] at h
        rcases h with rfl | rfl | rfl | rfl
        · exact (z_w_in (i := 659) (by decide +kernel))
        · exact (z_w_in (i := 660) (by decide +kernel))
        · exact (z_w_in (i := 661) (by decide +kernel))
        · exact (z_w_in (i := 113) (by decide +kernel))
      · rcases List.mem_cons.mp h with rfl | h
        · exact (z_w_in (i := 662) (by decide +kernel))
        · exact h)) rfl rfl rfl (by decide +kernel) ⟨Nat.le_of_ble_eq_true rfl, Nat.le_of_ble_eq_true rfl⟩) ⟨z_P1_blind, vk_recv (hK.2.2.1 k q hq).2 (i := 0) (by decide) hS, fun U hU hW => ⟨rfl, hK.at hS hU hW⟩⟩ rfl rfl hl.1 rfl (lv_room (Nat.le_of_ble_eq_true rfl)) dJ0_length_8abf5_6 ⟨Nat.zero_le _, Nat.zero_le _⟩) ?_
  refine lv_ishr hx hb dJ0_length_8abf5_9 ?_
  have e9 : Int32.ofNat q.2.2.2.length >>> ((0 : Int32) &&& 31) = Int32.ofNat q.2.2.2.length := by
    have h0 : ((0 : Int32) &&& 31) = 0 := by decide
    rw [h0]
    have := pk_shrN hlen 0 0 (by decide)
    simpa [nI] using this
  rw [e9]
  exact W.iret hx hb hr (fun t ht _ => ⟨rfl, ht⟩) (fun _ h => by cases h) dJ0_length_8abf5_10
set_option maxHeartbeats 4000000 in
set_option maxRecDepth 100000 in
theorem zc_pcheck (l : Launch) (Z : Nat) (D : va_G) (tc : Nat → ClassId) (adK adV : Nat → Nat) (sb : Nat) (sx : zX) (i n : Int32) (f : Value) (hf : f.category = 1) (h0 : ¬ i < 0) (h1 : i < n) : Met l yJ3_checkIndex_8e157 (.code yJ3_checkIndex_8e157 cJ3_checkIndex_8e157 3 (some .int) :: z_T) (z_rm 0 0 0) (z_P1 l Z D tc adK adV sb sx [.int i, .int n, f]) (z_Qp (some (.int i))) 0 0 (fun _ => False) := by
  refine Met.ofW (cc := cJ3_checkIndex_8e157) (maxL := 3) (ret := (some .int)) (by decide) rfl ?_
  intro p e s m args below meth c s₁ B hml hv
  obtain ⟨rfl, hK⟩ := hv
  have hx := B.exec
  have hb := B.bytes
  have hr := B.returns
  have hts0 := atoms_spec B.pre
  have hts : ∀ w ∈ z_T, w.before _ s = true := fun w hw => hts0 w (List.mem_cons_of_mem _ hw)
  have hown := findClass_of_methodNamed B.named
  have hlocks := B.notSynchronized
  have hS : va_S (fun q => Z ≤ q) s.heap s.heap [] := va_S.rf
  have hlf : (lg_sl [Value.int i, Value.int n, f]).length = 3 := by cases f <;> first | rfl | cases hf
  have hl := lv_entry ([.int i, .int n, f]) (n := 3) (by omega)
  rw [lg_entry_eq]
  generalize (lg_sl ([.int i, .int n, f]) ++ List.replicate (3 - (lg_sl ([.int i, .int n, f])).length) Slot.unset).toArray = ls at hl ⊢
  have hl := lv_sub hl [0, 1] (l' := [(0, .int i), (1, .int n)]) rfl
  refine lv_iload_n (pc := 0) hx hb (k := 0) (i := 0) dJ3_checkIndex_8e157_0 rfl (lv_at hl 0 rfl) ?_
  refine lv_if_lt (tgt := 9) hx hb dJ3_checkIndex_8e157_1 (by decide) (fun h9 => absurd h9 h0) (fun _ => ?_)
  refine lv_iload_n hx hb (k := 0) (i := 0) dJ3_checkIndex_8e157_4 rfl (lv_at hl 0 rfl) ?_
  refine lv_iload_n hx hb (k := 1) (i := 1) dJ3_checkIndex_8e157_5 rfl (lv_at hl 1 rfl) ?_
  refine lv_icmp_lt (tgt := 16) hx hb dJ3_checkIndex_8e157_6 (by decide) (fun _ => ?_) (fun h9 => absurd h1 h9)
  refine lv_iload_n hx hb (k := 0) (i := 0) dJ3_checkIndex_8e157_16 rfl (lv_at hl 0 rfl) ?_
  exact W.iret hx hb hr (fun t ht _ => ⟨rfl, ht⟩) (fun _ h => by cases h) dJ3_checkIndex_8e157_17
set_option maxHeartbeats 4000000 in
set_option maxRecDepth 100000 in
theorem zc_check (l : Launch) (Z : Nat) (D : va_G) (tc : Nat → ClassId) (adK adV : Nat → Nat) (sb : Nat) (sx : zX) (i n : Int32) (h0 : ¬ i < 0) (h1 : i < n) : Met l yJ0_checkIndex_df160 (.code yJ0_checkIndex_df160 cJ0_checkIndex_df160 2 none :: z_T) (z_rm 1 0 0) (z_P1 l Z D tc adK adV sb sx [.int i, .int n]) (z_Qp none) 0 0 (fun _ => False) := by
  refine Met.ofW (cc := cJ0_checkIndex_df160) (maxL := 2) (ret := none) (by decide) rfl ?_
  intro p e s m args below meth c s₁ B hml hv
  obtain ⟨rfl, hK⟩ := hv
  have hx := B.exec
  have hb := B.bytes
  have hr := B.returns
  have hts0 := atoms_spec B.pre
  have hts : ∀ w ∈ z_T, w.before _ s = true := fun w hw => hts0 w (List.mem_cons_of_mem _ hw)
  have hown := findClass_of_methodNamed B.named
  have hlocks := B.notSynchronized
  have hS : va_S (fun q => Z ≤ q) s.heap s.heap [] := va_S.rf
  have hl := lv_entry ([.int i, .int n]) (n := 2) (Nat.le_of_ble_eq_true rfl)
  rw [lg_entry_eq]
  generalize (lg_sl ([.int i, .int n]) ++ List.replicate (2 - (lg_sl ([.int i, .int n])).length) Slot.unset).toArray = ls at hl ⊢
  have hl : lv_has ls 2 [(0, .int i), (1, .int n)] := hl
  refine lv_iload_n (pc := 0) hx hb (k := 0) (i := 0) dJ0_checkIndex_df160_0 rfl (lv_at hl 0 rfl) ?_
  refine lv_iload_n hx hb (k := 1) (i := 1) dJ0_checkIndex_df160_1 rfl (lv_at hl 1 rfl) ?_
  have key : ∀ f : Value, f.category = 1 → W p l e (headSpec (.code yJ0_checkIndex_df160 cJ0_checkIndex_df160 2 none :: z_T) (z_rm 1 0 0)).room s m #[Value.int i, Value.int n] below meth c s.heap [] 0 0 (MQ below (z_Qp none) #[Value.int i, Value.int n] s 0 0 (fun _ => False)) (F0 m 5 ls [f, .int n, .int i]) := by
    intro f hf
    refine z_callp (va_runS (As := [.int i, .int n, f]) (rest := []) ⟨hx, hb, hml, hown, hts⟩ (zc_pcheck l Z D tc adK adV sb sx i n f hf h0 h1) (z_cwS 3 hts (y := yJ3_checkIndex_8e157) (bytes := cJ3_checkIndex_8e157) (maxL := 3) (ret := (some .int)) (z_w_in (i := 688) (by decide +kernel)) (z_w_in (i := 689) (by decide +kernel)) (z_w_in (i := 115) (by decide +kernel)) (z_w_in (i := 690) (by decide +kernel)) rfl rfl (by decide +kernel) ⟨Nat.le_of_ble_eq_true rfl, Nat.le_of_ble_eq_true rfl⟩) ⟨z_P1_blind, fun U hU hW => ⟨rfl, hK.at hS hU hW⟩⟩ rfl rfl hl.1 rfl (lv_room (Nat.le_of_ble_eq_true rfl)) dJ0_checkIndex_df160_5 ⟨Nat.zero_le _, Nat.zero_le _⟩) ?_
    refine lv_pop hx hb dJ0_checkIndex_df160_8 rfl ?_
    exact W.vret hx hb hr (fun t ht _ => ⟨rfl, ht⟩) (fun _ h => by cases h) dJ0_checkIndex_df160_9
  rcases hK.2.2.2.2.2.2.2.2.2.2.2.1 with hz | ⟨t, hz⟩
  · exact va_gets hx hb hz hS hown (hts (.fieldLink "java/lang/String" 1053 "jdk/internal/util/Preconditions" "SIOOBE_FORMATTER" "Ljava/util/function/BiFunction;") (z_w_in (i := 686) (by decide +kernel))) (fun _ h9 => h9) dJ0_checkIndex_df160_2 (key _ rfl)
  · exact va_gets hx hb hz hS hown (hts (.fieldLink "java/lang/String" 1053 "jdk/internal/util/Preconditions" "SIOOBE_FORMATTER" "Ljava/util/function/BiFunction;") (z_w_in (i := 686) (by decide +kernel))) (fun _ h9 => h9) dJ0_checkIndex_df160_2 (key _ rfl)
theorem z_and255 (x : Int32) : ∃ n : Nat, n < 256 ∧ x &&& 255 = nI n := by
  have h := pk_and x (m := 255) 8 (by decide)
  exact ⟨_, Nat.mod_lt _ (by decide), h⟩
theorem zt_c2 (x : Int32) : ((x &&& 255).toUInt32 % 65536).toInt32 = x &&& 255 := by
  obtain ⟨n, hn, e⟩ := z_and255 x
  rw [e]
  have h := pk_char (nI n)
  rw [h, pk_tn (by omega), Nat.mod_eq_of_lt (by omega)]
theorem z_nar (x : Int32) : narrow .char (.int (x &&& 255)) = .int (x &&& 255) := by
  obtain ⟨n, hn, e⟩ := z_and255 x
  rw [e]
  exact (pk_charN (by omega)).1
set_option maxHeartbeats 4000000 in
set_option maxRecDepth 100000 in
theorem zc_latin (l : Launch) (Z : Nat) (D : va_G) (tc : Nat → ClassId) (adK adV : Nat → Nat) (sb : Nat) (sx : zX) (k : Nat) (q : String × Nat × String × List Int32) (hq : z_strs[k]? = some q) (hlen : q.2.2.2.length < 2 ^ 31) (j : Nat) (hj : j < q.2.2.2.length) : Met l yJ1_charAt_3b067 (.code yJ1_charAt_3b067 cJ1_charAt_3b067 2 (some .char) :: z_T) (z_rm 2 0 0) (z_P1 l Z D tc adK adV sb sx [.ref (adV k), .int (nI j)]) (z_Qp (some (.int ((q.2.2.2.getD j 0) &&& 255)))) 0 0 (fun _ => False) := by
  refine Met.ofW (cc := cJ1_charAt_3b067) (maxL := 2) (ret := (some .char)) (by decide) rfl ?_
  intro p e s m args below meth c s₁ B hml hv
  obtain ⟨rfl, hK⟩ := hv
  have hx := B.exec
  have hb := B.bytes
  have hr := B.returns
  have hts0 := atoms_spec B.pre
  have hts : ∀ w ∈ z_T, w.before _ s = true := fun w hw => hts0 w (List.mem_cons_of_mem _ hw)
  have hown := findClass_of_methodNamed B.named
  have hlocks := B.notSynchronized
  have hS : va_S (fun q => Z ≤ q) s.heap s.heap [] := va_S.rf
  have hl := lv_entry ([.ref (adV k), .int (nI j)]) (n := 2) (Nat.le_of_ble_eq_true rfl)
  rw [lg_entry_eq]
  generalize (lg_sl ([.ref (adV k), .int (nI j)]) ++ List.replicate (2 - (lg_sl ([.ref (adV k), .int (nI j)])).length) Slot.unset).toArray = ls at hl ⊢
  have hSg := (hK.2.2.1 k q hq).2.1 0 (by decide)
  have hl : lv_has ls 2 [(0, .ref (adV k)), (1, .int (nI j))] := hl
  refine lv_iload_n (pc := 0) hx hb (k := 1) (i := 1) dJ1_charAt_3b067_0 rfl (lv_at hl 1 rfl) ?_
  refine lv_aload_n hx hb (k := 0) (i := 0) dJ1_charAt_3b067_1 rfl (lv_at hl 0 rfl) ?_
  refine va_tlen hx hb hSg.2.2.2 hS (v := nI q.2.2.2.length) rfl dJ1_charAt_3b067_2 ?_
  refine z_callp (va_runS (As := [.int (nI j), .int (nI q.2.2.2.length)]) (rest := []) ⟨hx, hb, hml, hown, hts⟩ (zc_check l Z D tc adK adV sb sx (nI j) (nI q.2.2.2.length) (nI_pos (by omega)) (nI_lt hj hlen)) (z_cwS 2 hts (y := yJ0_checkIndex_df160) (bytes := cJ0_checkIndex_df160) (maxL := 2) (ret := none) (z_w_in (i := 683) (by decide +kernel)) (z_w_in (i := 684) (by decide +kernel)) (z_w_in (i := 113) (by decide +kernel)) (z_w_in (i := 685) (by decide +kernel)) rfl rfl (by decide +kernel) ⟨Nat.le_of_ble_eq_true rfl, Nat.le_of_ble_eq_true rfl⟩) ⟨z_P1_blind, fun U hU hW => ⟨rfl, hK.at hS hU hW⟩⟩ rfl rfl hl.1 rfl (lv_room (Nat.le_of_ble_eq_true rfl)) dJ1_charAt_3b067_3 ⟨Nat.zero_le _, Nat.zero_le _⟩) ?_
  refine lv_aload_n hx hb (k := 0) (i := 0) dJ1_charAt_3b067_6 rfl (lv_at hl 0 rfl) ?_
  refine lv_iload_n hx hb (k := 1) (i := 1) dJ1_charAt_3b067_7 rfl (lv_at hl 1 rfl) ?_
  refine va_tb hx hb hSg.2.2.2 hS (i := nI j) (vp_in_nI hj hlen) (v := .int (q.2.2.2.getD j 0)) (by rw [nI_clamp (by omega)]; rfl) dJ1_charAt_3b067_8 ?_
  refine lv_sipush hx hb (n := 255) (v := 255) dJ1_charAt_3b067_9 (by decide) ?_
  refine lv_iand hx hb dJ1_charAt_3b067_12 ?_
  refine lv_i2c hx hb (v := (q.2.2.2.getD j 0) &&& 255) dJ1_charAt_3b067_13 (zt_c2 _) ?_
  exact W.zret hx hb hr (z_nar _) (fun t ht _ => ⟨rfl, ht⟩) (fun _ h => by cases h) dJ1_charAt_3b067_14
set_option maxHeartbeats 4000000 in
set_option maxRecDepth 100000 in
theorem zc_charAt (l : Launch) (Z : Nat) (D : va_G) (tc : Nat → ClassId) (adK adV : Nat → Nat) (sb : Nat) (sx : zX) (k : Nat) (q : String × Nat × String × List Int32) (hq : z_strs[k]? = some q) (hlen : q.2.2.2.length < 2 ^ 31) (j : Nat) (hj : j < q.2.2.2.length) : Met l yJ0_charAt_5068e (.code yJ0_charAt_5068e cJ0_charAt_5068e 2 (some .char) :: z_T) (z_rm 3 0 0) (z_P1 l Z D tc adK adV sb sx [.ref (adK k), .int (nI j)]) (z_Qp (some (.int ((q.2.2.2.getD j 0) &&& 255)))) 0 0 (fun _ => False) := by
  refine Met.ofW (cc := cJ0_charAt_5068e) (maxL := 2) (ret := (some .char)) (by decide) rfl ?_
  intro p e s m args below meth c s₁ B hml hv
  obtain ⟨rfl, hK⟩ := hv
  have hx := B.exec
  have hb := B.bytes
  have hr := B.returns
  have hts0 := atoms_spec B.pre
  have hts : ∀ w ∈ z_T, w.before _ s = true := fun w hw => hts0 w (List.mem_cons_of_mem _ hw)
  have hown := findClass_of_methodNamed B.named
  have hlocks := B.notSynchronized
  have hS : va_S (fun q => Z ≤ q) s.heap s.heap [] := va_S.rf
  have hl := lv_entry ([.ref (adK k), .int (nI j)]) (n := 2) (Nat.le_of_ble_eq_true rfl)
  rw [lg_entry_eq]
  generalize (lg_sl ([.ref (adK k), .int (nI j)]) ++ List.replicate (2 - (lg_sl ([.ref (adK k), .int (nI j)])).length) Slot.unset).toArray = ls at hl ⊢
  have hSg := (hK.2.2.1 k q hq).2.1 0 (by decide)
  have hl : lv_has ls 2 [(0, .ref (adK k)), (1, .int (nI j))] := hl
  refine lv_aload_n (pc := 0) hx hb (k := 0) (i := 0) dJ0_charAt_5068e_0 rfl (lv_at hl 0 rfl) ?_
  refine z_callp (va_runV (As := []) (rest := []) ⟨hx, hb, hml, hown, hts⟩ (zc_isLatin1 l Z D tc adK adV sb sx k q hq) (cwV 0 hts (z_good (ws := wsV RJ0 492 RJ0 yJ0_isLatin1_aae02 (.code yJ0_isLatin1_aae02 cJ0_isLatin1_aae02 1 (some .boolean) :: z_T)) (fun w hw => by
      rcases List.mem_append.mp hw with h | h
      · simp only [List.mem_cons, List.not_mem_nil, or_false] at h
        rcases h with rfl | rfl | rfl | rfl
        · exact (z_w_in (i := 676) (by decide +kernel))
        · exact (z_w_in (i := 677) (by decide +kernel))
        · exact (z_w_in (i := 678) (by decide +kernel))
        · exact (z_w_in (i := 113) (by decide +kernel))
      · rcases List.mem_cons.mp h with rfl | h
        · exact (z_w_in (i := 679) (by decide +kernel))
        · exact h)) rfl rfl rfl (by decide +kernel) ⟨Nat.le_of_ble_eq_true rfl, Nat.le_of_ble_eq_true rfl⟩) ⟨z_P1_blind, vk_recv (hK.2.2.1 k q hq).2 (i := 0) (by decide) hS, fun U hU hW => ⟨rfl, hK.at hS hU hW⟩⟩ rfl rfl hl.1 rfl (lv_room (Nat.le_of_ble_eq_true rfl)) dJ0_charAt_5068e_1 ⟨Nat.zero_le _, Nat.zero_le _⟩) ?_
  refine lv_if_eq (tgt := 16) hx hb dJ0_charAt_5068e_4 (by decide) (fun h9 => by cases h9) (fun _ => ?_)
  refine lv_aload_n hx hb (k := 0) (i := 0) dJ0_charAt_5068e_7 rfl (lv_at hl 0 rfl) ?_
  refine vk_getf hx hb hSg.2.2.1 hS hown (hts (.fieldLink "java/lang/String" 9 "java/lang/String" "value" "[B") (z_w_in (i := 2109) (by decide +kernel))) (fun _ h9 => h9) dJ0_charAt_5068e_8 ?_
  refine lv_iload_n hx hb (k := 1) (i := 1) dJ0_charAt_5068e_11 rfl (lv_at hl 1 rfl) ?_
  refine z_callp (va_runS (As := [.ref (adV k), .int (nI j)]) (rest := []) ⟨hx, hb, hml, hown, hts⟩ (zc_latin l Z D tc adK adV sb sx k q hq hlen j hj) (z_cwS 2 hts (y := yJ1_charAt_3b067) (bytes := cJ1_charAt_3b067) (maxL := 2) (ret := (some .char)) (z_w_in (i := 680) (by decide +kernel)) (z_w_in (i := 681) (by decide +kernel)) (z_w_in (i := 114) (by decide +kernel)) (z_w_in (i := 682) (by decide +kernel)) rfl rfl (by decide +kernel) ⟨Nat.le_of_ble_eq_true rfl, Nat.le_of_ble_eq_true rfl⟩) ⟨z_P1_blind, fun U hU hW => ⟨rfl, hK.at hS hU hW⟩⟩ rfl rfl hl.1 rfl (lv_room (Nat.le_of_ble_eq_true rfl)) dJ0_charAt_5068e_12 ⟨Nat.zero_le _, Nat.zero_le _⟩) ?_
  exact W.zret hx hb hr (z_nar _) (fun t ht _ => ⟨rfl, ht⟩) (fun _ h => by cases h) dJ0_charAt_5068e_15
end
