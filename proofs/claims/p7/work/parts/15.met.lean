/-! a method's contract out of its run -/
theorem z_met {sx : zX} {d j : Nat} {as : List Value} {h : zH} {o : zO} {h' : zH} {kc ks : Nat} (hB : z_Bd sx d j 0 (lv_args 0 as) [] h o h' kc ks) {M : zMi} {cs : List zI} {is : List zJ} {hs : List zHd} (hM : z_ms[j]? = some M) (hcs : z_cs[j]? = some cs) (his : z_is[j]? = some is) (hhs : z_hs[j]? = some hs) (hck : z_ckM M cs is hs = true) (hw : (lg_sl as).length ≤ M.2.2.2.1) (hh : M.2.2.2.2.2 = [])
    (l : Launch) (Z : Nat) (D : va_G) (tc : Nat → ClassId) (adK adV : Nat → Nat) (sb : Nat) (ad : Nat → Nat) (hA : z_A0 adK sb ad) (hok : ∀ v ∈ as, z_okV h.length v) :
    vx_Met l M.2.1 (.code M.2.1 M.2.2.1 M.2.2.2.1 M.2.2.2.2.1 :: z_T) (z_rm d kc ks) (z_Pm l Z D tc adK adV sb sx ad h as) (z_Qm Z D tc ad h.length h' o) (z_Xm Z D tc ad h.length h' o) kc ks (fun q => Z ≤ q) := by
  unfold z_ckM at hck
  simp only [Bool.and_eq_true, decide_eq_true_eq] at hck
  obtain ⟨⟨⟨⟨⟨c1, c2⟩, c3⟩, c4⟩, c5⟩, c6⟩ := hck
  refine z_ofWF (cc := M.2.2.1) (maxL := M.2.2.2.1) (ret := M.2.2.2.2.1) c2 rfl ?_
  intro p e s m args below meth c s₁ B hml hnt hv
  obtain ⟨rfl, hK, hR⟩ := hv
  have hts0 := atoms_spec B.pre
  have htab : c.exceptionTable.toList = tableOf M.2.2.2.2.2 := by
    rw [hh]
    cases ht : c.exceptionTable.toList with
    | nil => rfl
    | cons x r => exact (hnt x (by rw [ht]; exact List.mem_cons_self)).elim
  have hFr : z_Fr p s m (as.map (z_tr ad)).toArray meth c M := ⟨B.exec, B.bytes, hml, B.returns, by have h9 := findClass_of_methodNamed B.named; rw [c1] at h9; exact h9, fun w hw => hts0 w (List.mem_cons_of_mem _ hw), B.notSynchronized, htab, (name_of_methodNamed B.named B.method).1⟩
  have hRm : z_Rm (headSpec (.code M.2.1 M.2.2.1 M.2.2.2.1 M.2.2.2.2.1 :: z_T) (z_rm d kc ks)).room d kc ks := ⟨Nat.le_refl _, Nat.le_refl _, Nat.le_refl _, Nat.le_refl _⟩
  have hl := lv_entry (as.map (z_tr ad)) (n := M.2.2.2.1) (by rw [z_lgl]; exact hw)
  rw [lg_entry_eq]
  rw [z_args_tr] at hl
  have kk := hB p l e _ s m _ below meth c Z D tc adK adV sb M cs is hs ad h.length kc ks _ hM hcs his hhs hFr hK hA hRm (z_ends hFr hK hA hRm c4) (z_outs hFr c4) ad s.heap [] _ 0 0 hR z_ag.rf (Nat.le_refl _) va_S.rf hl (z_args_ok 0 as hok) (fun _ h9 => by cases h9) (Nat.zero_add _) (Nat.zero_add _)
  rw [c3] at kk
  exact kk
theorem z_metH {sx : zX} {d j : Nat} {as : List Value} {h : zH} {o : zO} {h' : zH} {kc ks : Nat} (hB : z_Bd sx d j 0 (lv_args 0 as) [] h o h' kc ks) {M : zMi} {cs : List zI} {is : List zJ} {hs : List zHd} (hM : z_ms[j]? = some M) (hcs : z_cs[j]? = some cs) (his : z_is[j]? = some is) (hhs : z_hs[j]? = some hs) (hck : z_ckM M cs is hs = true) (hw : (lg_sl as).length ≤ M.2.2.2.1)
    (l : Launch) (Z : Nat) (D : va_G) (tc : Nat → ClassId) (adK adV : Nat → Nat) (sb : Nat) (ad : Nat → Nat) (hA : z_A0 adK sb ad) (hok : ∀ v ∈ as, z_okV h.length v) :
    vx_Met l M.2.1 (.codeWith M.2.1 M.2.2.1 M.2.2.2.1 M.2.2.2.2.1 M.2.2.2.2.2 :: z_T) (z_rm d kc ks) (z_Pm l Z D tc adK adV sb sx ad h as) (z_Qm Z D tc ad h.length h' o) (z_Xm Z D tc ad h.length h' o) kc ks (fun q => Z ≤ q) := by
  unfold z_ckM at hck
  simp only [Bool.and_eq_true, decide_eq_true_eq] at hck
  obtain ⟨⟨⟨⟨⟨c1, c2⟩, c3⟩, c4⟩, c5⟩, c6⟩ := hck
  refine z_ofWHF (cc := M.2.2.1) (maxL := M.2.2.2.1) (ret := M.2.2.2.2.1) (hh := M.2.2.2.2.2) c2 rfl ?_
  intro p e s m args below meth c s₁ B hml hv
  obtain ⟨rfl, hK, hR⟩ := hv
  have hts0 := atoms_spec B.pre
  have htab : c.exceptionTable.toList = tableOf M.2.2.2.2.2 := vx_table (x := M.2.1) B (hts0 _ List.mem_cons_self)
  have hFr : z_Fr p s m (as.map (z_tr ad)).toArray meth c M := ⟨B.exec, B.bytes, hml, B.returns, by have h9 := findClass_of_methodNamed B.named; rw [c1] at h9; exact h9, fun w hw => hts0 w (List.mem_cons_of_mem _ hw), B.notSynchronized, htab, (name_of_methodNamed B.named B.method).1⟩
  have hRm : z_Rm (headSpec (.codeWith M.2.1 M.2.2.1 M.2.2.2.1 M.2.2.2.2.1 M.2.2.2.2.2 :: z_T) (z_rm d kc ks)).room d kc ks := ⟨Nat.le_refl _, Nat.le_refl _, Nat.le_refl _, Nat.le_refl _⟩
  have hl := lv_entry (as.map (z_tr ad)) (n := M.2.2.2.1) (by rw [z_lgl]; exact hw)
  rw [lg_entry_eq]
  rw [z_args_tr] at hl
  have kk := hB p l e _ s m _ below meth c Z D tc adK adV sb M cs is hs ad h.length kc ks _ hM hcs his hhs hFr hK hA hRm (z_ends hFr hK hA hRm c4) (z_outs hFr c4) ad s.heap [] _ 0 0 hR z_ag.rf (Nat.le_refl _) va_S.rf hl (z_args_ok 0 as hok) (fun _ h9 => by cases h9) (Nat.zero_add _) (Nat.zero_add _)
  rw [c3] at kk
  exact kk
