/-! the run is the machine's: one induction -/
theorem z_cal_no {i : zI} {d : Nat} {st : List Value} {h : zH} {j : Nat} {as rest : List Value} (hc : z_cal0 i d st h = some (j, as, rest)) : i.1 = 54 ∨ i.1 = 55 ∨ i.1 = 72 ∨ i.1 = 56 ∨ i.1 = 73 := by
  unfold z_cal0 at hc
  by_cases hd : d = 0 ∨ st.length < i.2.2.1
  · rw [if_pos hd] at hc; cases hc
  rw [if_neg hd] at hc
  split at hc
  · next h9 => exact Or.inl h9
  · next h9 => exact Or.inr (Or.inl h9)
  · next h9 => exact Or.inr (Or.inr (Or.inl h9))
  · next h9 => exact Or.inr (Or.inr (Or.inr (Or.inl h9)))
  · next h9 => exact Or.inr (Or.inr (Or.inr (Or.inr h9)))
  · cases hc
theorem z_ckB_op {M : zMi} {is : List zJ} {hs : List zHd} {i : zI} {q : zJ} {k : Nat} (h : i.1 ≠ 50 ∧ i.1 ≠ 51 ∧ i.1 ≠ 52 ∧ i.1 ≠ 53 ∧ i.1 ≠ 62 ∧ i.1 ≠ 54 ∧ i.1 ≠ 55 ∧ i.1 ≠ 72 ∧ i.1 ≠ 56 ∧ i.1 ≠ 73) : z_ckB M is hs i q k = (z_cks.getD i.1 zk_no) M i.2.1 i.2.2.1 i.2.2.2 q.1 q.2.1 q.2.2.1 q.2.2.2 (z_nxOf is) k := by
  obtain ⟨h0, h1, h2, h3, h4, h5, h6, h7, h8, h9⟩ := h
  unfold z_ckB
  split
  · next e => exact absurd e h0
  · next e => exact absurd e h1
  · next e => exact absurd e h2
  · next e => exact absurd e h3
  · next e => exact absurd e h4
  · next e => exact absurd e h5
  · next e => exact absurd e h6
  · next e => exact absurd e h7
  · next e => exact absurd e h8
  · next e => exact absurd e h9
  · rfl
theorem z_opno {sx : zX} {d a b k : Nat} {ci : Int} {lo : zL} {st : List Value} {h : zH} {o : Nat} (ho : o = 50 ∨ o = 51 ∨ o = 52 ∨ o = 53 ∨ o = 62 ∨ o = 54 ∨ o = 55 ∨ o = 72 ∨ o = 56 ∨ o = 73 ∨ o = 99) : (z_ops.getD o z_no) sx d a b ci k lo st h = none := by
  rcases ho with rfl | rfl | rfl | rfl | rfl | rfl | rfl | rfl | rfl | rfl | rfl <;> rfl
theorem z_lenAt {j : Nat} {M : zMi} (hL : z_LEN) (hM : z_ms[j]? = some M) : ∃ cs is hs, z_cs[j]? = some cs ∧ z_is[j]? = some is ∧ z_hs[j]? = some hs := by
  have hl := (List.getElem?_eq_some_iff.mp hM).1
  exact ⟨z_cs[j]'(by rw [hL.1]; exact hl), z_is[j]'(by rw [hL.2.1]; exact hl), z_hs[j]'(by rw [hL.2.2]; exact hl), List.getElem?_eq_getElem _, List.getElem?_eq_getElem _, List.getElem?_eq_getElem _⟩
theorem z_mapadd {r : Option zRes} {x y : Nat} {o : zO} {hF : zH} {kc ks : Nat} (h : r.map (z_add x y) = some (o, hF, kc, ks)) : ∃ a b, r = some (o, hF, a, b) ∧ kc = a + x ∧ ks = b + y := by
  cases r with
  | none => cases h
  | some w =>
    obtain ⟨o9, h9, a, b⟩ := w
    simp only [Option.map_some, z_add, Option.some.injEq, Prod.mk.injEq] at h
    obtain ⟨rfl, rfl, rfl, rfl⟩ := h
    exact ⟨a, b, rfl, rfl, rfl⟩
set_option maxHeartbeats 4000000 in
theorem z_sound (hOK : z_OK) (hLEN : z_LEN) (sx : zX) : ∀ (n d j k : Nat) (lo : zL) (st : List Value) (h : zH) (o : zO) (hF : zH) (x y : Nat), z_run sx n d j k lo st h = some (o, hF, x, y) → z_Bd sx d j k lo st h o hF x y := by
  intro n
  induction n with
  | zero => intro d j k lo st h o hF x y hr; rw [z_run] at hr; cases hr
  | succ n ih =>
    intro d j k lo st h o hF x y hr
    rw [z_run] at hr
    intro p l e R s m args below meth c Z D tc adK adV sb M cs is hs ad0 n0 C S Q hM hcs his hhs hFr hK hA hR hHR hHX
    rw [hM, hcs, hhs] at hr
    dsimp only at hr
    cases hk : cs[k]? with
    | none => rw [hk] at hr; cases hr
    | some i =>
    rw [hk] at hr
    dsimp only at hr
    have hckM := hOK j M cs is hs hM hcs his hhs
    have hckM0 := hckM
    unfold z_ckM at hckM
    simp only [Bool.and_eq_true, decide_eq_true_eq] at hckM
    obtain ⟨⟨⟨⟨⟨c1, c2⟩, c3⟩, c4⟩, c5⟩, c6⟩ := hckM
    obtain ⟨q, hq, hckA⟩ := z_ckL_at 0 cs is c6 k i hk
    rw [Nat.zero_add] at hckA
    have hnx : z_nxOf is k = q.1 := by unfold z_nxOf; rw [hq]; rfl
    cases hfin : z_fin M i d st with
    | some w =>
      obtain ⟨o9, x9, y9⟩ := w
      rw [hfin] at hr
      simp only [Option.some.injEq, Prod.mk.injEq] at hr
      obtain ⟨rfl, rfl, rfl, rfl⟩ := hr
      exact hHR k i q lo st x9 y9 hk hq hckA hfin
    | none =>
    rw [hfin] at hr
    dsimp only at hr
    cases hcal : z_cal i d st h with
    | some w =>
      obtain ⟨j', as, rest⟩ := w
      rw [hcal] at hr
      dsimp only at hr
      obtain ⟨hcal0, M', hM', hw⟩ := z_cal_in hcal
      obtain ⟨cs', is', hs', hcs', his', hhs'⟩ := z_lenAt hLEN hM'
      have hck' := hOK j' M' cs' is' hs' hM' hcs' his' hhs'
      have hop := z_cal_no hcal0
      have hckB : decode M.2.2.1 q.1 = .ok (q.2.1, q.2.2.1) ∧ z_ckB M is hs i q k = true := by
        unfold z_ckA at hckA
        rw [Bool.or_eq_true, Bool.and_eq_true, decide_eq_true_eq, decide_eq_true_eq] at hckA
        rcases hckA with h9 | h9
        · omega
        · exact h9
      cases hin : z_run sx n (d - 1) j' 0 (lv_args 0 as) [] h with
      | none => rw [hin] at hr; cases hr
      | some w =>
      obtain ⟨oi, h1, x1, y1⟩ := w
      rw [hin] at hr
      have hB := ih (d - 1) j' 0 (lv_args 0 as) [] h oi h1 x1 y1 hin
      cases oi with
      | inl v =>
        dsimp only at hr
        obtain ⟨a, b, hr2, rfl, rfl⟩ := z_mapadd hr
        have hW := ih d j (k + 1) lo (v.toList ++ rest) h1 o hF a b hr2 p l e R s m args below meth c Z D tc adK adV sb M cs is hs ad0 n0 C S Q hM hcs his hhs hFr hK hA hR hHR hHX
        rcases hop with hi | hi | hi | hi | hi
        · exact z_cl54 hFr hK hA hR c4 c5 hi hckB.2 hckB.1 hnx hcal0 hM' hcs' his' hhs' hck' hw hB (fun v9 hv => by cases hv; exact hW) (fun E hE => by cases hE)
        · exact z_cl55 hFr hK hA hR hi hckB.2 hckB.1 hnx hcal0 hM' hcs' his' hhs' hck' hw hB hW
        · exact z_cl72 hFr hK hA hR hi hckB.2 hckB.1 hnx hcal0 hM' hcs' his' hhs' hck' hw hB hW
        · exact z_cl56 hFr hK hA hR hi hckB.2 hckB.1 hnx hcal0 hM' hcs' his' hhs' hck' hw hB hW
        · exact z_cl73 hFr hK hA hR hi hckB.2 hckB.1 hnx hcal0 hM' hcs' his' hhs' hck' hw hB hW
      | inr E =>
        dsimp only at hr
        by_cases hi : i.1 = 54
        case neg => rw [if_neg hi] at hr; cases hr
        rw [if_pos hi] at hr
        cases hf : hs.find? (fun q => q.2.2.2.2.1 == E) with
        | some qh =>
          rw [hf] at hr
          dsimp only at hr
          obtain ⟨a, b, hr2, rfl, rfl⟩ := z_mapadd hr
          have hW := ih d j qh.2.2.2.2.2.1 (z_drop lo qh.2.2.2.2.2.2) [] h1 o hF a b hr2 p l e R s m args below meth c Z D tc adK adV sb M cs is hs ad0 n0 C S Q hM hcs his hhs hFr hK hA hR hHR hHX
          exact z_cl54 hFr hK hA hR c4 c5 hi hckB.2 hckB.1 hnx hcal0 hM' hcs' his' hhs' hck' hw hB (fun v9 hv => by cases hv) (fun E9 hE => by cases hE; exact Or.inl ⟨qh, hf, hW⟩)
        | none =>
          rw [hf] at hr
          dsimp only at hr
          by_cases hh : hs = []
          case neg => rw [if_neg hh] at hr; cases hr
          rw [if_pos hh] at hr
          simp only [Option.some.injEq, Prod.mk.injEq] at hr
          obtain ⟨rfl, rfl, rfl, rfl⟩ := hr
          have kk := z_cl54 (kc := 0) (ks := 0) (lo := lo) (Q := Q) (n0 := n0) (below := below) (e := e) hFr hK hA hR c4 c5 hi hckB.2 hckB.1 hnx hcal0 hM' hcs' his' hhs' hck' hw hB (fun v9 hv => by cases hv) (fun E9 hE => by cases hE; exact Or.inr ⟨hh, rfl, rfl, hHX⟩)
          rw [Nat.zero_add, Nat.zero_add] at kk
          exact kk
    | none =>
    rw [hcal] at hr
    dsimp only at hr
    cases hop : (z_ops.getD i.1 z_no) sx d i.2.1 i.2.2.1 i.2.2.2 k lo st h with
    | none => rw [hop] at hr; cases hr
    | some w =>
    obtain ⟨k', lo', st', h', x1, y1⟩ := w
    rw [hop] at hr
    dsimp only at hr
    obtain ⟨a, b, hr2, rfl, rfl⟩ := z_mapadd hr
    have hW := ih d j k' lo' st' h' o hF a b hr2 p l e R s m args below meth c Z D tc adK adV sb M cs is hs ad0 n0 C S Q hM hcs his hhs hFr hK hA hR hHR hHX
    have hno : ¬ (i.1 = 50 ∨ i.1 = 51 ∨ i.1 = 52 ∨ i.1 = 53 ∨ i.1 = 62 ∨ i.1 = 54 ∨ i.1 = 55 ∨ i.1 = 72 ∨ i.1 = 56 ∨ i.1 = 73 ∨ i.1 = 99) := fun h9 => by
      rw [z_opno h9] at hop; cases hop
    have hckB : decode M.2.2.1 q.1 = .ok (q.2.1, q.2.2.1) ∧ z_ckB M is hs i q k = true := by
      unfold z_ckA at hckA
      rw [Bool.or_eq_true, Bool.and_eq_true, decide_eq_true_eq, decide_eq_true_eq] at hckA
      rcases hckA with h9 | h9
      · exact absurd (Or.inr (Or.inr (Or.inr (Or.inr (Or.inr (Or.inr (Or.inr (Or.inr (Or.inr (Or.inr h9)))))))))) hno
      · exact h9
    have hck2 := hckB.2
    rw [z_ckB_op (by omega)] at hck2
    have hd := hckB.1
    rw [← hnx] at hd hck2
    exact z_all i.1 p l e R s m args below meth c Z D tc adK adV sb sx M (z_nxOf is) ad0 n0 C S d Q i.2.1 i.2.2.1 i.2.2.2 k q.2.1 q.2.2.1 q.2.2.2 hFr hK hA hR hd hck2 lo st h k' lo' st' h' x1 y1 hop a b hW
