/-! calls -/
section ZCont
variable {p : Program} {l : Launch} {e : Env} {R : Room} {s : State} {m : MethodId} {args : Array Value} {below : List Frame} {meth : Method} {c : Code} {Z : Nat} {D : va_G} {tc : Nat → ClassId} {adK adV : Nat → Nat} {sb : Nat} {sx : zX} {M : zMi} {nx : Nat → Nat} {ad0 : Nat → Nat} {n0 C S d : Nat} {Q : State → Prop} {k : Nat} {lo : zL} {st : List Value} {h : zH} {h' : zH} {kc ks x y : Nat} {ad ad' : Nat → Nat} {H H1 : Heap} {locs locs1 : List Loc} {ls : Array Slot} {cells slots : Nat} {rest : List Value} {v : Option Value}
theorem z_cont (hW : z_W p l e R s m args below meth c Z D tc M nx ad0 n0 C S Q (k + 1) lo (v.toList ++ rest) h' kc ks) (hn : nx (k + 1) = nx k + 3) (q2 : z_ag n0 ad0 ad) (q3 : n0 ≤ h.length) (q5 : lv_has ls M.2.2.2.1 (z_tl ad lo)) (q6 : ∀ q ∈ lo, z_okV h.length q.2) (q7 : ∀ w ∈ rest, z_okV h.length w) (q8 : cells + (kc + x) = C) (q9 : slots + (ks + y) = S)
    (g1 : z_ag h.length ad ad') (g2 : z_R Z D tc ad' h' H1) (g3 : h.length ≤ h'.length) (g4 : va_S (fun q => Z ≤ q) s.heap H1 locs1) (g5 : ∀ w, v = some w → z_okV h'.length w) : W p l e R s m args below meth c H1 locs1 (cells + x) (slots + y) Q (F0 m (nx k + 3) ls ((v.map (z_tr ad')).toList ++ rest.map (z_tr ad))) := by
  have kk := hW ad' H1 locs1 ls (cells + x) (slots + y) g2 (q2.trans g1 q3) (by omega) g4 (by rw [z_tl_ag g1 q6]; exact q5) (fun q hq => (q6 q hq).mono g3) (fun w hw => by
    rcases List.mem_append.mp hw with z | z
    · cases v with
      | none => cases z
      | some w9 => rw [Option.toList_some, List.mem_singleton] at z; rw [z]; exact g5 w9 rfl
    · exact (q7 w z).mono g3) (by omega) (by omega)
  rw [hn, List.map_append, z_st_ag g1 q7] at kk
  cases v with
  | none => exact kk
  | some w9 => exact kk
end ZCont
theorem z_find {hs : List zHd} {E : Nat} {q : zHd} (h : hs.find? (fun q => q.2.2.2.2.1 == E) = some q) : q.2.2.2.2.1 = E ∧ ∃ pre suf, hs = pre ++ q :: suf ∧ ∀ z ∈ pre, z.2.2.2.2.1 ≠ E := by
  obtain ⟨h1, pre, suf, h2, h3⟩ := List.find?_eq_some_iff_append.mp h
  refine ⟨by simpa using h1, pre, suf, h2, fun z hz => ?_⟩
  have := h3 z hz
  simpa using this
theorem z_exc_in {x : Nat} {E : String} (h : z_excs[x]? = some E) : E ∈ z_excs := List.mem_of_getElem? h
theorem z_exc_ne {x y : Nat} {E F : String} (h1 : z_excs[x]? = some E) (h2 : z_excs[y]? = some F) (h : x ≠ y) : E ≠ F := by
  have hnd : ∀ x, x < 5 → ∀ y, y < 5 → x ≠ y → z_excs[x]? ≠ z_excs[y]? := by decide
  intro e
  subst e
  have l1 : x < 5 := (List.getElem?_eq_some_iff.mp h1).1
  have l2 : y < 5 := (List.getElem?_eq_some_iff.mp h2).1
  exact hnd x l1 y l2 h (h1.trans h2.symm)
theorem z_castE {x : Nat} {E : String} (h : z_excs[x]? = some E) : Cond.castable E E ∈ z_xw := by
  have : ∀ E ∈ z_excs, Cond.castable E E ∈ z_xw := by decide +kernel
  exact this E (z_exc_in h)
set_option maxHeartbeats 4000000 in
/-- a thrown exception that this method catches -/
theorem z_caught {p : Program} {l : Launch} {e : Env} {R : Room} {s : State} {m : MethodId} {args : Array Value} {below : List Frame} {meth : Method} {c : Code} {Z : Nat} {D : va_G} {tc : Nat → ClassId} {adK adV : Nat → Nat} {sb : Nat} {sx : zX} {M : zMi} {is : List zJ} {hs : List zHd} {ad0 : Nat → Nat} {n0 C S d : Nat} {Q : State → Prop} {k : Nat} {lo : zL} {h : zH} {h' : zH} {kc ks x y : Nat} {ad ad' : Nat → Nat} {H1 : Heap} {locs1 : List Loc} {ls : Array Slot} {cells slots : Nat} {rest : List Value} {E : Nat} {cls : String} {q : zHd} {q9 : Addr} {ce : Cell}
    (hFr : z_Fr p s m args meth c M) (hK : z_K l Z D tc adK adV sb sx s) (hhs : M.2.2.2.2.2 = hs.map (fun x => (x.1, x.2.1, x.2.2.1, x.2.2.2.1))) (hck : hs.all (z_ckH M is) = true) (hcov : hs.all (fun x => decide (x.1 ≤ z_nxOf is k) && decide (z_nxOf is k < x.2.1)) = true) (hf : hs.find? (fun q => q.2.2.2.2.1 == E) = some q) (hE : z_excs[E]? = some cls)
    (hW : z_W p l e R s m args below meth c Z D tc M (z_nxOf is) ad0 n0 C S Q q.2.2.2.2.2.1 (z_drop lo q.2.2.2.2.2.2) [] h' kc ks) (q2 : z_ag n0 ad0 ad) (q3 : n0 ≤ h.length) (q5 : lv_has ls M.2.2.2.1 (z_tl ad lo)) (q6 : ∀ q ∈ lo, z_okV h.length q.2) (q8 : cells + (kc + x) = C) (q9' : slots + (ks + y) = S)
    (g1 : z_ag h.length ad ad') (g2 : z_R Z D tc ad' h' H1) (g3 : h.length ≤ h'.length) (g4 : va_S (fun q => Z ≤ q) s.heap H1 locs1) (e1 : H1[q9]? = some ce) (e2 : ce.vm = .none) (e3 : s.vm.findClass cls = some ce.cls) : vx_W p l e R s m args below meth c H1 locs1 (cells + x) (slots + y) Q (F0 m (z_nxOf is k) ls rest) q9 := by
  obtain ⟨hx, hb, hml, hr, hown, hts, hlocks, htab, hnm⟩ := hFr
  obtain ⟨hqE, pre, suf, hsp, hpre⟩ := z_find hf
  have hcovq : ∀ z ∈ hs, covers (⟨z.1, z.2.1, z.2.2.1, z.2.2.2.1⟩ : ExceptionTableEntry) (z_nxOf is k) = true := fun z hz => List.all_eq_true.mp hcov z hz
  have hH : ∀ z ∈ hs, z_ckH M is z = true := List.all_eq_true.mp hck
  have hqm : q ∈ hs := by rw [hsp]; exact List.mem_append_right _ List.mem_cons_self
  have hq := hH q hqm
  unfold z_ckH at hq
  simp only [Bool.and_eq_true, decide_eq_true_eq] at hq
  obtain ⟨⟨⟨b1, b2⟩, b3⟩, b4⟩ := hq
  split at b4
  case h_2 => cases b4
  next E9 qi hE9 hqi =>
  have hcE : E9 = cls := by rw [hqE, hE] at hE9; exact (Option.some.inj hE9).symm
  subst hcE
  simp only [Bool.and_eq_true, decide_eq_true_eq] at b4
  obtain ⟨⟨⟨b5, b6⟩, b7⟩, b8⟩ := b4
  have kk := fun ls hl => hW ad' H1 locs1 ls (cells + x) (slots + y) g2 (q2.trans g1 q3) (by omega) g4 hl (fun z hz => (q6 z (List.mem_filter.mp hz).1).mono g3) (fun _ h9 => by cases h9) (by omega) (by omega)
  have q5' : lv_has ls M.2.2.2.1 (z_tl ad' lo) := by rw [z_tl_ag g1 q6]; exact q5
  have drop : ∀ (ls' : Array Slot), lv_has ls' M.2.2.2.1 ((q.2.2.2.2.2.2, Value.ref q9) :: (z_tl ad' lo).filter (fun z => !(z.1 == q.2.2.2.2.2.2) && !(z.1 + 1 == q.2.2.2.2.2.2 && z.2.category == 2))) → lv_has ls' M.2.2.2.1 (z_tl ad' (z_drop lo q.2.2.2.2.2.2)) := by
    intro ls' h9
    refine ⟨h9.1, h9.2.1, fun z hz => h9.2.2 z (List.mem_cons_of_mem _ ?_)⟩
    have e9 : (z_tl ad' lo).filter (fun z => !(z.1 == q.2.2.2.2.2.2) && !(z.1 + 1 == q.2.2.2.2.2.2 && z.2.category == 2)) = z_tl ad' (z_drop lo q.2.2.2.2.2.2) := by
      simp only [z_tl, z_drop, List.filter_map]
      congr 1
      apply List.filter_congr
      intro z _
      simp only [Function.comp, z_tr_cat]
    rw [e9]
    exact hz
  refine vx_catch (name := E9) hown (pre.map (fun z => (⟨z.1, z.2.1, z.2.2.1, z.2.2.2.1⟩ : ExceptionTableEntry))) ⟨q.1, q.2.1, q.2.2.1, q.2.2.2.1⟩ (suf.map (fun z => (⟨z.1, z.2.1, z.2.2.1, z.2.2.2.1⟩ : ExceptionTableEntry))) ?_ ?_ (hcovq q hqm) (by show q.2.2.2.1 ≠ 0; omega) (hts _ (z_mem_in b5)) (va_Nw.use rfl (hK.2.2.2.2.2.2.2.2.2.2.2.2.2.2 _ (z_castE hE))) e1 e2 e3 ?_
  · rw [htab, hhs, hsp]
    simp only [tableOf, List.map_append, List.map_cons, List.map_map]
    rfl
  · intro z hz
    obtain ⟨z0, hz0, rfl⟩ := List.mem_map.mp hz
    have hz1 : z0 ∈ hs := by rw [hsp]; exact List.mem_append_left _ hz0
    have hz2 := hH z0 hz1
    unfold z_ckH at hz2
    simp only [Bool.and_eq_true, decide_eq_true_eq] at hz2
    obtain ⟨⟨⟨u1, u2⟩, u3⟩, u4⟩ := hz2
    split at u4
    case h_2 => cases u4
    next F9 qj hF9 hqj =>
    simp only [Bool.and_eq_true, decide_eq_true_eq] at u4
    refine Or.inr ⟨by show z0.2.2.2.1 ≠ 0; omega, F9, hts _ (z_mem_in u4.1.1.1), ?_⟩
    exact hK.2.2.2.2.2.2.2.2.2.2.2.2.2.1 _ (z_exc_in hE) _ (z_exc_in hF9) (z_exc_ne hE hF9 (fun e9 => hpre z0 hz0 e9.symm))
  · show W p l e R s m args below meth c H1 locs1 (cells + x) (slots + y) Q (F0 m q.2.2.1 ls [.ref q9])
    rw [← b6]
    split at b8
    · next va hva =>
      simp only [Bool.and_eq_true, decide_eq_true_eq] at b8
      obtain ⟨⟨rfl, b9⟩, b10⟩ := b8
      rw [hva, b9] at b7
      refine lv_astore hx hb b7 q5' b2 rfl (fun ls' hl' => ?_)
      have k9 := kk ls' (drop ls' hl')
      rw [b10] at k9
      exact k9
    · next va hva =>
      simp only [Bool.and_eq_true, decide_eq_true_eq] at b8
      obtain ⟨⟨b8a, b9⟩, b10⟩ := b8
      rw [hva, b9] at b7
      refine lv_astore_n hx hb b7 b8a q5' b2 rfl (fun ls' hl' => ?_)
      have k9 := kk ls' (drop ls' hl')
      rw [b10] at k9
      exact k9
    · cases b8
