/-! the reference's reader: its state, and steps by it; printed with wip/gen/gen_rd1.py -/
noncomputable def zPm : List zMod := [(20, 10, 10), (20, 12, 12), (20, 13, 13), (20, 16, 16), (21, 1237, 2085)]
noncomputable def zPF (fs : List Value) (w b E P Q D S : Nat) : Prop := fs.length = 23 ∧ fs[1]? = some (.ref w) ∧ fs[8]? = some (.ref b) ∧ (∃ x : Int32, fs[11]? = some (.int x) ∧ x.toInt = (E : Int)) ∧ (∃ x : Int32, fs[10]? = some (.int x) ∧ x.toInt = (P : Int)) ∧ (∃ x : Int32, fs[12]? = some (.int x) ∧ x.toInt = (Q : Int)) ∧ (∃ x : Int32, fs[13]? = some (.int x) ∧ x.toInt = (D : Int)) ∧ (∃ x : Int32, fs[16]? = some (.int x) ∧ x.toInt = (S : Int))
noncomputable def zPS (ty : List Nat) (h0 : zH) (a w b E P Q D S : Nat) (g : Nat → Int32) (h : zH) : Prop := zTY z_tt ty h ∧ zE1 ty h ∧ zFm zPm ty h0 h ∧ ty[a]? = some 20 ∧ ty[w]? = some 21 ∧ ty[b]? = some 26 ∧ h[w]? = some (.inl (0, (2086, .inl g))) ∧ ∃ fs, h[a]? = some (.inr (9, fs)) ∧ zPF fs w b E P Q D S
noncomputable def zRq (Q : Option Value → zH → Prop) : zO → zH → Nat → Nat → Prop := fun o h x y => ∃ v, o = .inl v ∧ x = 0 ∧ y = 0 ∧ Q v h
theorem zI_add {x y : Int32} {X Y : Int} (hx : x.toInt = X) (hy : y.toInt = Y) (h1 : -2147483648 ≤ X + Y) (h2 : X + Y ≤ 2147483647) : (x + y).toInt = X + Y := by
  rw [Int32.toInt_add, hx, hy]; exact z_bm h1 h2
theorem zI_sub {x y : Int32} {X Y : Int} (hx : x.toInt = X) (hy : y.toInt = Y) (h1 : -2147483648 ≤ X - Y) (h2 : X - Y ≤ 2147483647) : (x - y).toInt = X - Y := by
  rw [Int32.toInt_sub, hx, hy]; exact z_bm h1 h2
theorem zI_mul {x y : Int32} {X Y : Int} (hx : x.toInt = X) (hy : y.toInt = Y) (h1 : -2147483648 ≤ X * Y) (h2 : X * Y ≤ 2147483647) : (x * y).toInt = X * Y := by
  rw [Int32.toInt_mul, hx, hy]; exact z_bm h1 h2
theorem zI_c {n : Int} (h1 : -2147483648 ≤ n) (h2 : n ≤ 2147483647) : (Int32.ofInt n).toInt = n := z_of32 h1 h2
section ZRD
variable {ty : List Nat} {h0 : zH} {a w b E P Q D S : Nat} {g : Nat → Int32} {sx : zX} {d j k k' : Nat} {lo : zL} {st : List Value} {h : zH} {Ψ : zO → zH → Nat → Nat → Prop} {M : zMi} {cs : List zI} {hs : List zHd} {z : Int}
theorem zPS.bd (H : zPS ty h0 a w b E P Q D S g h) : E ≤ 400 ∧ P ≤ 400 ∧ Q ≤ 400 ∧ D ≤ 6 ∧ S ≤ 400 := by
  obtain ⟨T, -, -, ha, -, -, -, fs, he, hl, -, -, ⟨x11, g11, e11⟩, ⟨x10, g10, e10⟩, ⟨x12, g12, e12⟩, ⟨x13, g13, e13⟩, ⟨x16, g16, e16⟩⟩ := H
  obtain ⟨y11, q11, l11, u11⟩ := zfd0 (b := 11) (lo := 0) (hi := 400) T ha he (by omega) (by decide +kernel)
  rw [g11] at q11
  cases q11
  obtain ⟨y10, q10, l10, u10⟩ := zfd0 (b := 10) (lo := 0) (hi := 400) T ha he (by omega) (by decide +kernel)
  rw [g10] at q10
  cases q10
  obtain ⟨y12, q12, l12, u12⟩ := zfd0 (b := 12) (lo := 0) (hi := 400) T ha he (by omega) (by decide +kernel)
  rw [g12] at q12
  cases q12
  obtain ⟨y13, q13, l13, u13⟩ := zfd0 (b := 13) (lo := 0) (hi := 6) T ha he (by omega) (by decide +kernel)
  rw [g13] at q13
  cases q13
  obtain ⟨y16, q16, l16, u16⟩ := zfd0 (b := 16) (lo := 0) (hi := 400) T ha he (by omega) (by decide +kernel)
  rw [g16] at q16
  cases q16
  omega
theorem zPS.ac (H : zPS ty h0 a w b E P Q D S g h) : ∃ fs, h[a]? = some (.inr (9, fs)) := by
  obtain ⟨-, -, -, -, -, -, -, fs, he, -⟩ := H
  exact ⟨fs, he⟩
theorem zg11 (H : zPS ty h0 a w b E P Q D S g h) (J : zJ3 j M cs hs) (hi : cs[k]? = some (37, 9, 11, z)) (hk : k + 1 = k') (kk : ∀ x : Int32, x.toInt = (E : Int) → z_ok sx d j k' lo (.int x :: st) h Ψ) : z_ok sx d j k lo (.ref a :: st) h Ψ := by
  obtain ⟨T, E1, F, ha, hw, hb, hg, fs, he, hl, f1, f8, ⟨x11, g11, e11⟩, ⟨x10, g10, e10⟩, ⟨x12, g12, e12⟩, ⟨x13, g13, e13⟩, ⟨x16, g16, e16⟩⟩ := H
  exact zh_get J hi hk he g11 (kk x11 e11)
theorem zg10 (H : zPS ty h0 a w b E P Q D S g h) (J : zJ3 j M cs hs) (hi : cs[k]? = some (37, 9, 10, z)) (hk : k + 1 = k') (kk : ∀ x : Int32, x.toInt = (P : Int) → z_ok sx d j k' lo (.int x :: st) h Ψ) : z_ok sx d j k lo (.ref a :: st) h Ψ := by
  obtain ⟨T, E1, F, ha, hw, hb, hg, fs, he, hl, f1, f8, ⟨x11, g11, e11⟩, ⟨x10, g10, e10⟩, ⟨x12, g12, e12⟩, ⟨x13, g13, e13⟩, ⟨x16, g16, e16⟩⟩ := H
  exact zh_get J hi hk he g10 (kk x10 e10)
theorem zg12 (H : zPS ty h0 a w b E P Q D S g h) (J : zJ3 j M cs hs) (hi : cs[k]? = some (37, 9, 12, z)) (hk : k + 1 = k') (kk : ∀ x : Int32, x.toInt = (Q : Int) → z_ok sx d j k' lo (.int x :: st) h Ψ) : z_ok sx d j k lo (.ref a :: st) h Ψ := by
  obtain ⟨T, E1, F, ha, hw, hb, hg, fs, he, hl, f1, f8, ⟨x11, g11, e11⟩, ⟨x10, g10, e10⟩, ⟨x12, g12, e12⟩, ⟨x13, g13, e13⟩, ⟨x16, g16, e16⟩⟩ := H
  exact zh_get J hi hk he g12 (kk x12 e12)
theorem zg13 (H : zPS ty h0 a w b E P Q D S g h) (J : zJ3 j M cs hs) (hi : cs[k]? = some (37, 9, 13, z)) (hk : k + 1 = k') (kk : ∀ x : Int32, x.toInt = (D : Int) → z_ok sx d j k' lo (.int x :: st) h Ψ) : z_ok sx d j k lo (.ref a :: st) h Ψ := by
  obtain ⟨T, E1, F, ha, hw, hb, hg, fs, he, hl, f1, f8, ⟨x11, g11, e11⟩, ⟨x10, g10, e10⟩, ⟨x12, g12, e12⟩, ⟨x13, g13, e13⟩, ⟨x16, g16, e16⟩⟩ := H
  exact zh_get J hi hk he g13 (kk x13 e13)
theorem zg16 (H : zPS ty h0 a w b E P Q D S g h) (J : zJ3 j M cs hs) (hi : cs[k]? = some (37, 9, 16, z)) (hk : k + 1 = k') (kk : ∀ x : Int32, x.toInt = (S : Int) → z_ok sx d j k' lo (.int x :: st) h Ψ) : z_ok sx d j k lo (.ref a :: st) h Ψ := by
  obtain ⟨T, E1, F, ha, hw, hb, hg, fs, he, hl, f1, f8, ⟨x11, g11, e11⟩, ⟨x10, g10, e10⟩, ⟨x12, g12, e12⟩, ⟨x13, g13, e13⟩, ⟨x16, g16, e16⟩⟩ := H
  exact zh_get J hi hk he g16 (kk x16 e16)
theorem zg1 (H : zPS ty h0 a w b E P Q D S g h) (J : zJ3 j M cs hs) (hi : cs[k]? = some (37, 9, 1, z)) (hk : k + 1 = k') (kk : z_ok sx d j k' lo (.ref w :: st) h Ψ) : z_ok sx d j k lo (.ref a :: st) h Ψ := by
  obtain ⟨T, E1, F, ha, hw, hb, hg, fs, he, hl, f1, f8, ⟨x11, g11, e11⟩, ⟨x10, g10, e10⟩, ⟨x12, g12, e12⟩, ⟨x13, g13, e13⟩, ⟨x16, g16, e16⟩⟩ := H
  exact zh_get J hi hk he f1 kk
theorem zg8 (H : zPS ty h0 a w b E P Q D S g h) (J : zJ3 j M cs hs) (hi : cs[k]? = some (37, 9, 8, z)) (hk : k + 1 = k') (kk : z_ok sx d j k' lo (.ref b :: st) h Ψ) : z_ok sx d j k lo (.ref a :: st) h Ψ := by
  obtain ⟨T, E1, F, ha, hw, hb, hg, fs, he, hl, f1, f8, ⟨x11, g11, e11⟩, ⟨x10, g10, e10⟩, ⟨x12, g12, e12⟩, ⟨x13, g13, e13⟩, ⟨x16, g16, e16⟩⟩ := H
  exact zh_get J hi hk he f8 kk
theorem zp10 (H : zPS ty h0 a w b E P Q D S g h) (J : zJ3 j M cs hs) (hi : cs[k]? = some (38, 9, 10, 0)) (hk : k + 1 = k') {v : Int32} (V : Nat) (hv : v.toInt = (V : Int)) (hV : V ≤ 400) (kk : ∀ h', zPS ty h0 a w b E V Q D S g h' → z_ok sx d j k' lo st h' Ψ) : z_ok sx d j k lo (.int v :: .ref a :: st) h Ψ := by
  obtain ⟨T, E1, F, ha, hw, hb, hg, fs, he, hl, f1, f8, ⟨x11, g11, e11⟩, ⟨x10, g10, e10⟩, ⟨x12, g12, e12⟩, ⟨x13, g13, e13⟩, ⟨x16, g16, e16⟩⟩ := H
  obtain ⟨T', F'⟩ := zwf' (ms := zPm) (b := 10) (V := (0, 0, 400)) (v := .int v) T ha he (by omega) ⟨v, rfl, by omega, by omega⟩ (by decide +kernel) (by decide +kernel)
  have E' := zE1_stable (ms := zPm) (by decide +kernel) ty h _ T T' (T.len T') F' E1
  have hn : a ≠ w := fun e => by rw [e, hw] at ha; cases ha
  exact zh_put J hi hk he (by omega) rfl (kk _ ⟨T', E', F.tr zExt.rf F', ha, hw, hb, (zset_ne hn).trans hg, _, zset_eq he, by rw [List.length_set]; exact hl, (List.getElem?_set_ne (by decide)).trans f1, (List.getElem?_set_ne (by decide)).trans f8, ⟨x11, (List.getElem?_set_ne (by decide)).trans g11, e11⟩, ⟨v, List.getElem?_set_self (by omega), hv⟩, ⟨x12, (List.getElem?_set_ne (by decide)).trans g12, e12⟩, ⟨x13, (List.getElem?_set_ne (by decide)).trans g13, e13⟩, ⟨x16, (List.getElem?_set_ne (by decide)).trans g16, e16⟩⟩)
theorem zp12 (H : zPS ty h0 a w b E P Q D S g h) (J : zJ3 j M cs hs) (hi : cs[k]? = some (38, 9, 12, 0)) (hk : k + 1 = k') {v : Int32} (V : Nat) (hv : v.toInt = (V : Int)) (hV : V ≤ 400) (kk : ∀ h', zPS ty h0 a w b E P V D S g h' → z_ok sx d j k' lo st h' Ψ) : z_ok sx d j k lo (.int v :: .ref a :: st) h Ψ := by
  obtain ⟨T, E1, F, ha, hw, hb, hg, fs, he, hl, f1, f8, ⟨x11, g11, e11⟩, ⟨x10, g10, e10⟩, ⟨x12, g12, e12⟩, ⟨x13, g13, e13⟩, ⟨x16, g16, e16⟩⟩ := H
  obtain ⟨T', F'⟩ := zwf' (ms := zPm) (b := 12) (V := (0, 0, 400)) (v := .int v) T ha he (by omega) ⟨v, rfl, by omega, by omega⟩ (by decide +kernel) (by decide +kernel)
  have E' := zE1_stable (ms := zPm) (by decide +kernel) ty h _ T T' (T.len T') F' E1
  have hn : a ≠ w := fun e => by rw [e, hw] at ha; cases ha
  exact zh_put J hi hk he (by omega) rfl (kk _ ⟨T', E', F.tr zExt.rf F', ha, hw, hb, (zset_ne hn).trans hg, _, zset_eq he, by rw [List.length_set]; exact hl, (List.getElem?_set_ne (by decide)).trans f1, (List.getElem?_set_ne (by decide)).trans f8, ⟨x11, (List.getElem?_set_ne (by decide)).trans g11, e11⟩, ⟨x10, (List.getElem?_set_ne (by decide)).trans g10, e10⟩, ⟨v, List.getElem?_set_self (by omega), hv⟩, ⟨x13, (List.getElem?_set_ne (by decide)).trans g13, e13⟩, ⟨x16, (List.getElem?_set_ne (by decide)).trans g16, e16⟩⟩)
theorem zp13 (H : zPS ty h0 a w b E P Q D S g h) (J : zJ3 j M cs hs) (hi : cs[k]? = some (38, 9, 13, 0)) (hk : k + 1 = k') {v : Int32} (V : Nat) (hv : v.toInt = (V : Int)) (hV : V ≤ 6) (kk : ∀ h', zPS ty h0 a w b E P Q V S g h' → z_ok sx d j k' lo st h' Ψ) : z_ok sx d j k lo (.int v :: .ref a :: st) h Ψ := by
  obtain ⟨T, E1, F, ha, hw, hb, hg, fs, he, hl, f1, f8, ⟨x11, g11, e11⟩, ⟨x10, g10, e10⟩, ⟨x12, g12, e12⟩, ⟨x13, g13, e13⟩, ⟨x16, g16, e16⟩⟩ := H
  obtain ⟨T', F'⟩ := zwf' (ms := zPm) (b := 13) (V := (0, 0, 6)) (v := .int v) T ha he (by omega) ⟨v, rfl, by omega, by omega⟩ (by decide +kernel) (by decide +kernel)
  have E' := zE1_stable (ms := zPm) (by decide +kernel) ty h _ T T' (T.len T') F' E1
  have hn : a ≠ w := fun e => by rw [e, hw] at ha; cases ha
  exact zh_put J hi hk he (by omega) rfl (kk _ ⟨T', E', F.tr zExt.rf F', ha, hw, hb, (zset_ne hn).trans hg, _, zset_eq he, by rw [List.length_set]; exact hl, (List.getElem?_set_ne (by decide)).trans f1, (List.getElem?_set_ne (by decide)).trans f8, ⟨x11, (List.getElem?_set_ne (by decide)).trans g11, e11⟩, ⟨x10, (List.getElem?_set_ne (by decide)).trans g10, e10⟩, ⟨x12, (List.getElem?_set_ne (by decide)).trans g12, e12⟩, ⟨v, List.getElem?_set_self (by omega), hv⟩, ⟨x16, (List.getElem?_set_ne (by decide)).trans g16, e16⟩⟩)
theorem zp16 (H : zPS ty h0 a w b E P Q D S g h) (J : zJ3 j M cs hs) (hi : cs[k]? = some (38, 9, 16, 0)) (hk : k + 1 = k') {v : Int32} (V : Nat) (hv : v.toInt = (V : Int)) (hV : V ≤ 400) (kk : ∀ h', zPS ty h0 a w b E P Q D V g h' → z_ok sx d j k' lo st h' Ψ) : z_ok sx d j k lo (.int v :: .ref a :: st) h Ψ := by
  obtain ⟨T, E1, F, ha, hw, hb, hg, fs, he, hl, f1, f8, ⟨x11, g11, e11⟩, ⟨x10, g10, e10⟩, ⟨x12, g12, e12⟩, ⟨x13, g13, e13⟩, ⟨x16, g16, e16⟩⟩ := H
  obtain ⟨T', F'⟩ := zwf' (ms := zPm) (b := 16) (V := (0, 0, 400)) (v := .int v) T ha he (by omega) ⟨v, rfl, by omega, by omega⟩ (by decide +kernel) (by decide +kernel)
  have E' := zE1_stable (ms := zPm) (by decide +kernel) ty h _ T T' (T.len T') F' E1
  have hn : a ≠ w := fun e => by rw [e, hw] at ha; cases ha
  exact zh_put J hi hk he (by omega) rfl (kk _ ⟨T', E', F.tr zExt.rf F', ha, hw, hb, (zset_ne hn).trans hg, _, zset_eq he, by rw [List.length_set]; exact hl, (List.getElem?_set_ne (by decide)).trans f1, (List.getElem?_set_ne (by decide)).trans f8, ⟨x11, (List.getElem?_set_ne (by decide)).trans g11, e11⟩, ⟨x10, (List.getElem?_set_ne (by decide)).trans g10, e10⟩, ⟨x12, (List.getElem?_set_ne (by decide)).trans g12, e12⟩, ⟨x13, (List.getElem?_set_ne (by decide)).trans g13, e13⟩, ⟨v, List.getElem?_set_self (by omega), hv⟩⟩)
theorem zpw {p q : Nat} (H : zPS ty h0 a w b E P Q D S g h) (J : zJ3 j M cs hs) (hi : cs[k]? = some (40, p, q, z)) (hk : k + 1 = k') {x v : Int32} (X : Nat) (hx : x.toInt = (X : Int)) (h1 : 1237 ≤ X) (h2 : X ≤ 2085) (kk : ∀ h', zPS ty h0 a w b E P Q D S (upd g X v) h' → z_ok sx d j k' lo st h' Ψ) : z_ok sx d j k lo (.int v :: .int x :: .ref w :: st) h Ψ := by
  obtain ⟨T, E1, F, ha, hw, hb, hg, fs, he, hl, f1, f8, ⟨x11, g11, e11⟩, ⟨x10, g10, e10⟩, ⟨x12, g12, e12⟩, ⟨x13, g13, e13⟩, ⟨x16, g16, e16⟩⟩ := H
  obtain ⟨T', F'⟩ := zwr (ms := zPm) T hw hg (i := X) (x := v) (by omega) (zst_ok (a := zFull) (ilo := 1237) (ihi := 2085) (by decide +kernel) (zFull_ok _) (by omega) (by omega)) (zcv_ok (lo := 1237) (hi := 2085) (by decide +kernel) (by omega) (by omega))
  have E' := zE1_stable (ms := zPm) (by decide +kernel) ty h _ T T' (T.len T') F' E1
  have hn : w ≠ a := fun e => by rw [e, ha] at hw; cases hw
  have hX : x.toNatClampNeg = X := znat hx
  refine zh_iast J hi hk hg (by omega) (by omega) ?_
  rw [hX]
  exact kk _ ⟨T', E', F.tr zExt.rf F', ha, hw, hb, zset_eq hg, fs, (zset_ne hn).trans he, hl, f1, f8, ⟨x11, g11, e11⟩, ⟨x10, g10, e10⟩, ⟨x12, g12, e12⟩, ⟨x13, g13, e13⟩, ⟨x16, g16, e16⟩⟩
theorem zlwd {p q : Nat} (H : zPS ty h0 a w b E P Q D S g h) (J : zJ3 j M cs hs) (hi : cs[k]? = some (39, p, q, z)) (hk : k + 1 = k') {x : Int32} (X : Nat) (hx : x.toInt = (X : Int)) (h2 : X ≤ 2085) (kk : z_ok sx d j k' lo (.int (g X) :: st) h Ψ) : z_ok sx d j k lo (.int x :: .ref w :: st) h Ψ := by
  obtain ⟨T, E1, F, ha, hw, hb, hg, fs, he, hl, f1, f8, ⟨x11, g11, e11⟩, ⟨x10, g10, e10⟩, ⟨x12, g12, e12⟩, ⟨x13, g13, e13⟩, ⟨x16, g16, e16⟩⟩ := H
  have hX : x.toNatClampNeg = X := znat hx
  refine zh_iald J hi hk hg (by omega) (by omega) ?_
  rw [hX]
  exact kk
theorem zlb {p q : Nat} (H : zPS ty h0 a w b E P Q D S g h) (J : zJ3 j M cs hs) (hi : cs[k]? = some (41, p, q, z)) (hk : k + 1 = k') {x : Int32} (X : Nat) (hx : x.toInt = (X : Int)) (h2 : X < 400) (kk : ∀ c : Int32, z_ok sx d j k' lo (.int c :: st) h Ψ) : z_ok sx d j k lo (.int x :: .ref b :: st) h Ψ := by
  obtain ⟨T, E1, F, ha, hw, hb, hg, fs, he, hl, f1, f8, ⟨x11, g11, e11⟩, ⟨x10, g10, e10⟩, ⟨x12, g12, e12⟩, ⟨x13, g13, e13⟩, ⟨x16, g16, e16⟩⟩ := H
  obtain ⟨f, hf⟩ := zcell2 (n := 400) T hb rfl rfl
  exact zh_bald J hi hk hf (by omega) (by omega) (kk _)
theorem zldc {t p : Nat} (J : zJ3 j M cs hs) (hi : cs[k]? = some (58, t, p, z)) (hk : k + 1 = k') (ht : t < z_strs.length) (kk : z_ok sx d j k' lo (.ref (zB + t) :: st) h Ψ) : z_ok sx d j k lo st h Ψ := by
  refine zh J hi rfl ?_ kk
  show zo_ldcs sx d t p z k lo st h = _
  unfold zo_ldcs
  rw [if_pos ht, hk]
/-- a call of one of the reference's methods whose run is known -/
theorem zcl {j' n : Nat} {xs rest : List Value} {M' : zMi} {R : Option Value → zH → Prop} (H : zPS ty h0 a w b E P Q D S g h) (J : zJ3 j M cs hs) (hi : cs[k]? = some (54, j', n, 9)) (hk : k + 1 = k') (hd : 0 < d) (hst : st = xs ++ .ref a :: rest) (hx : xs.length = n) (hz : z_cat rest ≤ 8) (hM : z_ms[j']? = some M') (hl : (lg_sl (.ref a :: xs.reverse)).length ≤ M'.2.2.2.1) (r : z_ok sx (d - 1) j' 0 (lv_args 0 (.ref a :: xs.reverse)) [] h (zRq R)) (kk : ∀ v h', R v h' → z_ok sx d j k' lo (v.toList ++ rest) h' Ψ) : z_ok sx d j k lo st h Ψ := by
  obtain ⟨fs, he⟩ := H.ac
  refine zh_run (rest := rest) J hi (show (54 : Nat) ≠ 50 ∧ (54 : Nat) ≠ 51 ∧ (54 : Nat) ≠ 52 ∧ (54 : Nat) ≠ 53 ∧ (54 : Nat) ≠ 62 by decide) (zcal54 hd hst hx he rfl hz hM hl) r (fun o h' x y q => ?_)
  obtain ⟨v, rfl, rfl, rfl, q⟩ := q
  rw [hk]
  exact ⟨v, rfl, rfl, rfl, kk v h' q⟩
end ZRD
/-! what code of a line does to the top of its stack, in the draft -/
noncomputable def zPs (g : Nat → Int32) : Nat → Nat → Nat → Nat → Prop
  | 0, _, t, t' => t' = t
  | n + 1, i, t, t' => let s := (g (1286 + 2 * i)).toInt
    i < 400 ∧ (if s ≤ 8 then t < 400 ∧ zPs g n (i + 1) (t + 1) t' else if s = 12 then 1 ≤ t ∧ zPs g n (i + 1) t t' else 2 ≤ t ∧ zPs g n (i + 1) (t - 1) t')
theorem zPs_app {g : Nat → Int32} : ∀ {n i t t1 m t2 : Nat}, zPs g n i t t1 → zPs g m (i + n) t1 t2 → zPs g (n + m) i t t2
  | 0, i, t, t1, m, t2, h1, h2 => by
    have h1 : t1 = t := h1
    subst h1
    rw [Nat.zero_add]
    exact h2
  | n + 1, i, t, t1, m, t2, h1, h2 => by
    rw [show n + 1 + m = (n + m) + 1 by omega]
    rw [show i + (n + 1) = i + 1 + n by omega] at h2
    obtain ⟨a1, a2⟩ := h1
    refine ⟨a1, ?_⟩
    split
    · next h3 => rw [if_pos h3] at a2; exact ⟨a2.1, zPs_app a2.2 h2⟩
    · next h3 =>
      rw [if_neg h3] at a2
      split
      · next h4 => rw [if_pos h4] at a2; exact ⟨a2.1, zPs_app a2.2 h2⟩
      · next h4 => rw [if_neg h4] at a2; exact ⟨a2.1, zPs_app a2.2 h2⟩
theorem zPs_congr {g g' : Nat → Int32} : ∀ {n i t t' : Nat}, (∀ k, k < 1286 + 2 * (i + n) → g' k = g k) → zPs g n i t t' → zPs g' n i t t'
  | 0, _, _, _, _, h => h
  | n + 1, i, t, t', hc, h => by
    obtain ⟨a1, a2⟩ := h
    refine ⟨a1, ?_⟩
    have hc' : ∀ k, k < 1286 + 2 * (i + 1 + n) → g' k = g k := fun k hk => hc k (by omega)
    rw [hc (1286 + 2 * i) (by omega)]
    split
    · next h3 => rw [if_pos h3] at a2; exact ⟨a2.1, zPs_congr hc' a2.2⟩
    · next h3 =>
      rw [if_neg h3] at a2
      split
      · next h4 => rw [if_pos h4] at a2; exact ⟨a2.1, zPs_congr hc' a2.2⟩
      · next h4 => rw [if_neg h4] at a2; exact ⟨a2.1, zPs_congr hc' a2.2⟩
theorem zPs_le {g : Nat → Int32} : ∀ {n i t t' : Nat}, zPs g n i t t' → t' ≤ t + n
  | 0, _, _, _, h => by have h : _ = _ := h; omega
  | n + 1, i, t, t', h => by
    obtain ⟨a1, a2⟩ := h
    split at a2
    · have := zPs_le a2.2; omega
    · split at a2
      · have := zPs_le a2.2; omega
      · have := zPs_le a2.2; omega
noncomputable def zCd (S : Nat) (g : Nat → Int32) (S' : Nat) (g' : Nat → Int32) (n : Nat) : Prop := S ≤ S' ∧ (∀ k, k < 1286 + 2 * S → g' k = g k) ∧ ∀ t, t ≤ S → zPs g' (S' - S) S t (t + n)
noncomputable def zEm (g : Nat → Int32) (S : Nat) (u v : Int32) : Nat → Int32 := upd (upd g (1286 + 2 * S) u) (1287 + 2 * S) v
theorem zEm_lt {g : Nat → Int32} {S : Nat} {u v : Int32} {k : Nat} (h : k < 1286 + 2 * S) : zEm g S u v k = g k := by
  unfold zEm upd
  rw [if_neg (by omega), if_neg (by omega)]
theorem zEm_at {g : Nat → Int32} {S : Nat} {u v : Int32} : zEm g S u v (1286 + 2 * S) = u := by
  unfold zEm upd
  rw [if_neg (by omega), if_pos rfl]
theorem zCd.push {S : Nat} {g : Nat → Int32} {u v : Int32} (hS : S < 400) (hu : u.toInt ≤ 8) : zCd S g (S + 1) (zEm g S u v) 1 := by
  refine ⟨by omega, fun k hk => zEm_lt hk, fun t ht => ?_⟩
  rw [show S + 1 - S = 0 + 1 by omega]
  refine ⟨hS, ?_⟩
  rw [zEm_at, if_pos hu]
  exact ⟨by omega, rfl⟩
theorem zCd.two {S S1 S2 : Nat} {g g1 g2 : Nat → Int32} (h1 : zCd S g S1 g1 1) (h2 : zCd S1 g1 S2 g2 1) : zCd S g S2 g2 2 := by
  obtain ⟨a1, a2, a3⟩ := h1
  obtain ⟨b1, b2, b3⟩ := h2
  refine ⟨by omega, fun k hk => by rw [b2 k (by omega), a2 k hk], fun t ht => ?_⟩
  have c1 := zPs_congr (g' := g2) (fun k hk => b2 k (by omega)) (a3 t ht)
  have c2 := zPs_le c1
  have c3 := b3 (t + 1) (by omega)
  rw [show S1 = S + (S1 - S) by omega] at c3
  have := zPs_app c1 c3
  rw [show S1 - S + (S2 - (S + (S1 - S))) = S2 - S by omega] at this
  exact this
theorem zCd.one {S S1 : Nat} {g g1 : Nat → Int32} {n m : Nat} {u v : Int32} (h1 : zCd S g S1 g1 n) (hS : S1 < 400) (hs : ∀ t, zPs (zEm g1 S1 u v) 1 S1 (t + n) (t + m)) : zCd S g (S1 + 1) (zEm g1 S1 u v) m := by
  obtain ⟨a1, a2, a3⟩ := h1
  refine ⟨by omega, fun k hk => by rw [zEm_lt (by omega), a2 k hk], fun t ht => ?_⟩
  have c1 := zPs_congr (g' := zEm g1 S1 u v) (fun k hk => zEm_lt (by omega)) (a3 t ht)
  have c3 := hs t
  rw [show S1 + 1 - S = S1 - S + 1 by omega]
  refine zPs_app c1 ?_
  rw [show S + (S1 - S) = S1 by omega]
  exact c3
theorem zCd.bin {S S1 : Nat} {g g1 : Nat → Int32} {u v : Int32} (h1 : zCd S g S1 g1 2) (hS : S1 < 400) (hu : 8 < u.toInt) (hu2 : u.toInt ≠ 12) : zCd S g (S1 + 1) (zEm g1 S1 u v) 1 := h1.one hS (fun t => by
  refine ⟨hS, ?_⟩
  rw [zEm_at, if_neg (by omega), if_neg hu2]
  exact ⟨by omega, by show t + 1 = t + 2 - 1; omega⟩)
theorem zCd.not {S S1 : Nat} {g g1 : Nat → Int32} {u v : Int32} (h1 : zCd S g S1 g1 1) (hS : S1 < 400) (hu : u.toInt = 12) : zCd S g (S1 + 1) (zEm g1 S1 u v) 1 := h1.one hS (fun t => by
  refine ⟨hS, ?_⟩
  rw [zEm_at, if_neg (by omega), if_pos hu]
  exact ⟨by omega, rfl⟩)
/-- how a piece of the grammar ends -/
noncomputable def zGs (ty : List Nat) (h0 : zH) (a w b E P D S : Nat) (g : Nat → Int32) : Option Value → zH → Prop := fun r h' => ∃ (c : Int32) (P' Q' D' S' : Nat) (g' : Nat → Int32), r = some (.int c) ∧ zPS ty h0 a w b E P' Q' D' S' g' h' ∧ (c = 0 ∨ (c = 1 ∧ D' = D ∧ S' + P ≤ P' + S ∧ zCd S g S' g' 1))
/-- how a look at the tape ends -/
noncomputable def zLk (ty : List Nat) (h0 : zH) (a w b E P D S : Nat) (g : Nat → Int32) : Option Value → zH → Prop := fun r h' => ∃ (c : Int32) (P' Q' : Nat), r = some (.int c) ∧ zPS ty h0 a w b E P' Q' D S g h' ∧ P ≤ P' ∧ (c = 0 ∨ (c = 1 ∧ P + 1 ≤ P'))
