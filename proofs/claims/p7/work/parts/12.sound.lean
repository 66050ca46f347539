/-! THE RUN IS THE MACHINE'S: contracts of all methods out of one induction -/
noncomputable def z_nxOf (is : List zJ) (k : Nat) : Nat := ((is[k]?).map (fun q => q.1)).getD 0
noncomputable def z_Pm (l : Launch) (Z : Nat) (D : va_G) (tc : Nat → ClassId) (adK adV : Nat → Nat) (sb : Nat) (sx : zX) (ad : Nat → Nat) (h : zH) (as : List Value) : Array Value → State → Prop := va_Pc (as.map (z_tr ad)) (fun U => z_K l Z D tc adK adV sb sx U ∧ z_R Z D tc ad h U.heap)
noncomputable def z_Qm (Z : Nat) (D : va_G) (tc : Nat → ClassId) (ad : Nat → Nat) (n : Nat) (h' : zH) (o : zO) : Array Value → State → Outcome → State → Prop := fun _ st oc t => ∃ v, o = .inl v ∧ ∃ ad', z_ag n ad ad' ∧ oc = .returned (v.map (z_tr ad')) ∧ z_R Z D tc ad' h' t.heap ∧ n ≤ h'.length ∧ (∀ w, v = some w → z_okV h'.length w) ∧ va_F (fun q => Z ≤ q) st t
noncomputable def z_Xm (Z : Nat) (D : va_G) (tc : Nat → ClassId) (ad : Nat → Nat) (n : Nat) (h' : zH) (o : zO) : String → State → State → Prop := fun E st t => ∃ x, o = .inr x ∧ z_excs[x]? = some E ∧ ∃ ad', z_ag n ad ad' ∧ z_R Z D tc ad' h' t.heap ∧ n ≤ h'.length ∧ va_F (fun q => Z ≤ q) st t
theorem z_Pm_blind {l : Launch} {Z : Nat} {D : va_G} {tc : Nat → ClassId} {adK adV : Nat → Nat} {sb : Nat} {sx : zX} {ad : Nat → Nat} {h : zH} {as : List Value} : FrameBlind (z_Pm l Z D tc adK adV sb sx ad h as) := fun a U g mk q => ⟨q.1, q.2.1.call g mk a, q.2.2⟩
section ZC
variable {p : Program} {l : Launch} {e : Env} {R : Room} {s : State} {m : MethodId} {args : Array Value} {below : List Frame} {meth : Method} {c : Code} {H : Heap} {locs : List Loc} {cells slots : Nat} {Q : State → Prop} {pc : Nat} {ls : Array Slot} {st0 rest : List Value} {a : Array Value} {Z : Nat} {D : va_G} {tc : Nat → ClassId} {ad : Nat → Nat} {n mc ms : Nat} {h' : zH} {o : zO}
theorem z_callx (hr : vx_Run p l e R s m args below meth c H locs cells slots mc ms (F0 m pc ls st0) rest (z_Qm Z D tc ad n h' o a) (z_Xm Z D tc ad n h' o) (fun q => Z ≤ q)) (hS : va_S (fun q => Z ≤ q) s.heap H locs)
    (kk : ∀ v, o = .inl v → ∀ (ad' : Nat → Nat) (H1 : Heap) (locs1 : List Loc), z_ag n ad ad' → z_R Z D tc ad' h' H1 → n ≤ h'.length → va_S (fun q => Z ≤ q) s.heap H1 locs1 → (∀ w, v = some w → z_okV h'.length w) → W p l e R s m args below meth c H1 locs1 (cells + mc) (slots + ms) Q (F0 m (pc + 3) ls ((v.map (z_tr ad')).toList ++ rest)))
    (kx : ∀ x E, o = .inr x → z_excs[x]? = some E → ∀ (ad' : Nat → Nat) (H1 : Heap) (locs1 : List Loc) (q9 : Addr) (ce : Cell), z_ag n ad ad' → z_R Z D tc ad' h' H1 → n ≤ h'.length → va_S (fun q => Z ≤ q) s.heap H1 locs1 → H1[q9]? = some ce → ce.vm = .none → s.vm.findClass E = some ce.cls → vx_W p l e R s m args below meth c H1 locs1 (cells + mc) (slots + ms) Q (F0 m pc ls rest) q9) : W p l e R s m args below meth c H locs cells slots Q (F0 m pc ls st0) := by
  intro T hT X
  rcases hr T hT X with ⟨v, st₀, t, T', L, h0, X', hL, e1, e2, ⟨v9, ho, ad', g1, hv, g2, g3, g4, hF⟩, st⟩ | ⟨q, st₀, t, T', L, E, ce, h0, X', hL, e1, e2, ⟨x9, ho, hE, ad', g1, g2, g3, hF⟩, hce, hcv, hcl, st⟩
  · cases hv
    obtain ⟨k1, k2, k3⟩ := vx_keep h0 e1 hS (fun _ _ h => h) (fun _ h => h) hL hF
    obtain ⟨t2, a1, b1⟩ := kk v9 ho ad' T'.heap (locs ++ L) g1 (by rw [e1]; exact g2) g3 k3 g4 T' rfl X'
    exact ⟨t2, st t2 a1, b1⟩
  · obtain ⟨k1, k2, k3⟩ := vx_keep h0 e1 hS (fun _ _ h => h) (fun _ h => h) hL hF
    obtain ⟨t2, a1, b1⟩ := kx x9 E ho hE ad' T'.heap (locs ++ L) q ce g1 (by rw [e1]; exact g2) g3 k3 (by rw [e1]; exact hce) hcv hcl T' rfl X'
    exact ⟨t2, st.trans a1, b1⟩
theorem z_calln (hr : va_Run p l e R s m args below meth c H locs cells slots mc ms (F0 m pc ls st0) rest (z_Qm Z D tc ad n h' o a) (fun q => Z ≤ q)) (hS : va_S (fun q => Z ≤ q) s.heap H locs)
    (kk : ∀ v, o = .inl v → ∀ (ad' : Nat → Nat) (H1 : Heap) (locs1 : List Loc), z_ag n ad ad' → z_R Z D tc ad' h' H1 → n ≤ h'.length → va_S (fun q => Z ≤ q) s.heap H1 locs1 → (∀ w, v = some w → z_okV h'.length w) → W p l e R s m args below meth c H1 locs1 (cells + mc) (slots + ms) Q (F0 m (pc + 3) ls ((v.map (z_tr ad')).toList ++ rest))) : W p l e R s m args below meth c H locs cells slots Q (F0 m pc ls st0) := by
  intro T hT X
  obtain ⟨v, st₀, t, T', L, h0, X', hL, e1, e2, ⟨v9, ho, ad', g1, hv, g2, g3, g4, hF⟩, st⟩ := hr T hT X
  cases hv
  obtain ⟨k1, k2, k3⟩ := vx_keep h0 e1 hS (fun _ _ h => h) (fun _ h => h) hL hF
  obtain ⟨t2, a1, b1⟩ := kk v9 ho ad' T'.heap (locs ++ L) g1 (by rw [e1]; exact g2) g3 k3 g4 T' rfl X'
  exact ⟨t2, st t2 a1, b1⟩
end ZC
/-- a method that doesn't throw here -/
theorem z_toMet {l : Launch} {y : MethodName} {ws : List Cond} {rm : Room} {Pc : Array Value → State → Prop} {Z : Nat} {D : va_G} {tc : Nat → ClassId} {ad : Nat → Nat} {n mc ms : Nat} {h' : zH} {v : Option Value} {free : Addr → Prop} (h : vx_Met l y ws rm Pc (z_Qm Z D tc ad n h' (.inl v)) (z_Xm Z D tc ad n h' (.inl v)) mc ms free) : Met l y ws rm Pc (z_Qm Z D tc ad n h' (.inl v)) mc ms free := by
  intro p e ha hc hk s m args below hf happ hP hK
  obtain ⟨n9, o9, h1, h2, h3, h4⟩ := h p e ha hc hk s m args below hf happ hP hK
  refine ⟨n9, o9, h1, h2, h3, ?_⟩
  rcases h4 with h4 | ⟨q, -, E, ce, L, ⟨x, hx, -⟩, -⟩
  · exact h4
  · cases hx
/-! the check of a table row -/
noncomputable def z_ics : List Nat := [72, 82, 355, 368, 377]
noncomputable def z_xn : List String := ["java/lang/RuntimeException", "java/lang/Exception"]
noncomputable def z_mem (w : Cond) : Bool := z_mk w lw_tbl && goodWord w
theorem z_mem_in {w : Cond} (h : z_mem w = true) : w ∈ z_T := by
  unfold z_mem at h
  rw [Bool.and_eq_true] at h
  exact List.mem_filter.mpr ⟨z_mk_ok h.1, h.2⟩
noncomputable def z_yok (y : MethodName) (n : Nat) : Bool := decide (y.cls ≠ "java/lang/invoke/MethodHandle" ∧ y.cls ≠ "java/lang/invoke/VarHandle" ∧ (parseMethodDescriptor y.desc).map (fun d => d.parameters.length) = some n)
abbrev zHd : Type := Nat × Nat × Nat × Nat × Nat × Nat × Nat
noncomputable def z_ckB (M : zMi) (is : List zJ) (hs : List zHd) (i : zI) (q : zJ) (k : Nat) : Bool := match i.1 with
  | 50 => (match q.2.1 with | .ireturn => decide (q.2.2.1 = 1) | _ => false)
  | 51 => (match q.2.1 with | .lreturn => decide (q.2.2.1 = 1) && decide (M.2.2.2.2.1 = some .long) | _ => false)
  | 52 => (match q.2.1 with | .areturn => decide (q.2.2.1 = 1) && (match M.2.2.2.2.1 with | some (.object _) => true | some (.array _) => true | _ => false) | _ => false)
  | 53 => (match q.2.1 with | .return_ => decide (q.2.2.1 = 1) && decide (M.2.2.2.2.1 = none) | _ => false)
  | 62 => (match q.2.1, z_excs[i.2.1]?, z_ics[i.2.1]?, z_strs[i.2.2.1]? with
    | .new ik, some cls, some ic, some sq => decide (M.1 = RX11) && decide (hs = []) && decide (q.2.2.1 = 3) && z_w (.classLink M.1 ik cls) (q.2.2.2.getD 0 0) && z_w (.initialized cls) (q.2.2.2.getD 1 0) && decide (sq.1 = M.1) && decide (decode M.2.2.1 (q.1 + 3) = .ok (.dup, 1)) && ((decide (decode M.2.2.1 (q.1 + 4) = .ok (.ldc sq.2.1, 2)) && decide (decode M.2.2.1 (q.1 + 6) = .ok (.invokespecial ic, 3)) && decide (decode M.2.2.1 (q.1 + 9) = .ok (.athrow, 1))) || (decide (decode M.2.2.1 (q.1 + 4) = .ok (.ldc_w sq.2.1, 3)) && decide (decode M.2.2.1 (q.1 + 7) = .ok (.invokespecial ic, 3)) && decide (decode M.2.2.1 (q.1 + 10) = .ok (.athrow, 1))))
    | _, _, _, _ => false)
  | 54 => (match q.2.1, z_ms[i.2.1]? with
    | .invokevirtual idx, some M' => decide (q.2.2.1 = 3) && decide (z_nxOf is (k + 1) = q.1 + 3) && decide (M'.2.2.2.2.2 = []) && decide (M'.2.1.cls = M'.1) && decide ((vwCl[i.2.2.2.toNat]?).map (fun x => x.1) = some M'.1) && decide (0 ≤ i.2.2.2) && z_w (.methodLink M.1 idx M'.2.1) (q.2.2.2.getD 0 0) && z_w (.instanceMethod M'.2.1) (q.2.2.2.getD 1 0) && z_w (.selects M'.1 M'.2.1 M'.2.1) (q.2.2.2.getD 2 0) && z_w (.initialized M'.1) (q.2.2.2.getD 3 0) && z_w (.code M'.2.1 M'.2.2.1 M'.2.2.2.1 M'.2.2.2.2.1) (q.2.2.2.getD 4 0) && z_yok M'.2.1 i.2.2.1 && decide (M'.2.2.2.1 ≤ 41) && hs.all (fun x => decide (x.1 ≤ q.1) && decide (q.1 < x.2.1))
    | _, _ => false)
  | 55 => (match q.2.1, z_ms[i.2.1]? with
    | .invokestatic idx, some M' => decide (q.2.2.1 = 3) && decide (z_nxOf is (k + 1) = q.1 + 3) && decide (M'.2.2.2.2.2 = []) && decide (M'.2.1.cls = M'.1) && z_w (.methodLink M.1 idx M'.2.1) (q.2.2.2.getD 0 0) && z_w (.static M'.2.1) (q.2.2.2.getD 1 0) && z_w (.initialized M'.1) (q.2.2.2.getD 2 0) && z_w (.code M'.2.1 M'.2.2.1 M'.2.2.2.1 M'.2.2.2.2.1) (q.2.2.2.getD 3 0) && z_yok M'.2.1 i.2.2.1 && decide (M'.2.2.2.1 ≤ 41)
    | _, _ => false)
  | 72 => (match q.2.1, z_ms[i.2.1]? with
    | .invokestatic idx, some M' => decide (q.2.2.1 = 3) && decide (z_nxOf is (k + 1) = q.1 + 3) && !decide (M'.2.2.2.2.2 = []) && decide (M'.2.1.cls = M'.1) && z_w (.methodLink M.1 idx M'.2.1) (q.2.2.2.getD 0 0) && z_w (.static M'.2.1) (q.2.2.2.getD 1 0) && z_w (.initialized M'.1) (q.2.2.2.getD 2 0) && z_w (.codeWith M'.2.1 M'.2.2.1 M'.2.2.2.1 M'.2.2.2.2.1 M'.2.2.2.2.2) (q.2.2.2.getD 3 0) && z_yok M'.2.1 i.2.2.1 && decide (M'.2.2.2.1 ≤ 41)
    | _, _ => false)
  | 56 => (match q.2.1, z_ms[i.2.1]? with
    | .invokespecial idx, some M' => decide (q.2.2.1 = 3) && decide (z_nxOf is (k + 1) = q.1 + 3) && decide (M'.2.2.2.2.2 = []) && decide (M'.2.1.cls = M'.1) && decide (M'.2.1.name = "<init>") && decide (M'.2.2.2.2.1 = none) && z_w (.methodLink M.1 idx M'.2.1) (q.2.2.2.getD 0 0) && z_w (.instanceMethod M'.2.1) (q.2.2.2.getD 1 0) && z_w (.initialized M'.1) (q.2.2.2.getD 2 0) && z_w (.code M'.2.1 M'.2.2.1 M'.2.2.2.1 none) (q.2.2.2.getD 3 0) && z_yok M'.2.1 i.2.2.1 && decide (M'.2.2.2.1 ≤ 41)
    | _, _ => false)
  | 73 => (match q.2.1, z_ms[i.2.1]? with
    | .invokespecial idx, some M' => decide (q.2.2.1 = 3) && decide (z_nxOf is (k + 1) = q.1 + 3) && decide (M'.2.2.2.2.2 = []) && decide (M'.2.1.cls = M'.1) && decide (M'.2.1.name = "<init>") && decide (M'.2.2.2.2.1 = none) && decide (Cond.methodLinkNest M.1 idx M'.2.1 RX11 ∈ z_nest) && z_w (.instanceMethod M'.2.1) (q.2.2.2.getD 0 0) && z_w (.initialized M'.1) (q.2.2.2.getD 1 0) && z_w (.code M'.2.1 M'.2.2.1 M'.2.2.2.1 none) (q.2.2.2.getD 2 0) && z_yok M'.2.1 i.2.2.1 && decide (M'.2.2.2.1 ≤ 41)
    | _, _ => false)
  | o => (z_cks.getD o zk_no) M i.2.1 i.2.2.1 i.2.2.2 q.1 q.2.1 q.2.2.1 q.2.2.2 (z_nxOf is) k
noncomputable def z_ckA (M : zMi) (is : List zJ) (hs : List zHd) (i : zI) (q : zJ) (k : Nat) : Bool := decide (i.1 = 99) || (decide (decode M.2.2.1 q.1 = .ok (q.2.1, q.2.2.1)) && z_ckB M is hs i q k)
/-- a handler: its row, its class, and that it begins with astore -/
noncomputable def z_ckH (M : zMi) (is : List zJ) (x : zHd) : Bool := decide (0 < x.2.2.2.1) && decide (x.2.2.2.2.2.2 < M.2.2.2.1) && decide (0 < x.2.2.2.2.2.1) && (match z_excs[x.2.2.2.2.1]?, is[x.2.2.2.2.2.1 - 1]? with
  | some E, some q => z_mem (.classLink M.1 x.2.2.2.1 E) && decide (q.1 = x.2.2.1) && decide (decode M.2.2.1 q.1 = .ok (q.2.1, q.2.2.1)) && (match q.2.1 with
    | .astore v => decide (v = x.2.2.2.2.2.2) && decide (q.2.2.1 = 2) && decide (z_nxOf is x.2.2.2.2.2.1 = q.1 + 2)
    | .astore_n v => decide ((v : Nat) = x.2.2.2.2.2.2) && decide (q.2.2.1 = 1) && decide (z_nxOf is x.2.2.2.2.2.1 = q.1 + 1)
    | _ => false)
  | _, _ => false)
noncomputable def z_ckL (M : zMi) (is : List zJ) (hs : List zHd) : Nat → List zI → List zJ → Bool
  | _, [], [] => true
  | k, i :: cs, q :: qs => z_ckA M is hs i q k && z_ckL M is hs (k + 1) cs qs
  | _, _, _ => false
noncomputable def z_ckM (M : zMi) (cs : List zI) (is : List zJ) (hs : List zHd) : Bool := decide (M.2.1.cls = M.1) && plainFor M.2.1 && decide (z_nxOf is 0 = 0) && decide (M.2.2.2.2.2 = hs.map (fun x => (x.1, x.2.1, x.2.2.1, x.2.2.2.1))) && hs.all (z_ckH M is) && z_ckL M is hs 0 cs is
noncomputable def z_OK : Prop := ∀ (j : Nat) (M : zMi) (cs : List zI) (is : List zJ) (hs : List zHd), z_ms[j]? = some M → z_cs[j]? = some cs → z_is[j]? = some is → z_hs[j]? = some hs → z_ckM M cs is hs = true
noncomputable def z_LEN : Prop := z_cs.length = z_ms.length ∧ z_is.length = z_ms.length ∧ z_hs.length = z_ms.length
theorem z_ckL_at {M : zMi} {is : List zJ} {hs : List zHd} : ∀ (k0 : Nat) (cs : List zI) (qs : List zJ), z_ckL M is hs k0 cs qs = true → ∀ (k : Nat) (i : zI), cs[k]? = some i → ∃ q, qs[k]? = some q ∧ z_ckA M is hs i q (k0 + k) = true
  | _, [], _, _, k, i, h => by simp at h
  | _, _ :: _, [], h, _, _, _ => by cases h
  | k0, c0 :: cs, q0 :: qs, h, k, i, hi => by
    rw [z_ckL, Bool.and_eq_true] at h
    match k with
    | 0 =>
      simp only [List.getElem?_cons_zero, Option.some.injEq] at hi ⊢
      subst hi
      exact ⟨q0, rfl, h.1⟩
    | k + 1 =>
      simp only [List.getElem?_cons_succ] at hi ⊢
      obtain ⟨q, e1, e2⟩ := z_ckL_at (k0 + 1) cs qs h.2 k i hi
      exact ⟨q, e1, by rw [show k0 + (k + 1) = k0 + 1 + k by omega]; exact e2⟩
