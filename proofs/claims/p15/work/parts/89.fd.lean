section
/-! A QUICKER READER OF THE BYTES: what the model's reader does, found in a table of the opcodes; the check of a table row over it (printed with wip/q/gen_fd.py) -/
noncomputable def zfct : { F : Nat → Nat → Decoder Instr // ∀ pc, Decoder.instr pc = Reader.u1 >>= F pc } := ⟨_, fun _ => rfl⟩
abbrev zFk : Type := Instr ⊕ ((Nat → Instr) ⊕ ((Int → Instr) ⊕ ((Nat → Instr) ⊕ ((Int → Instr) ⊕ Bool))))
noncomputable def zF0 : zFk := .inr (.inr (.inr (.inr (.inr false))))
noncomputable def zfr (k : zFk) : Decoder Instr := match k with
  | .inl i => pure i
  | .inr (.inl f) => do pure (f (← Reader.u1))
  | .inr (.inr (.inl f)) => do pure (f (← Reader.s1))
  | .inr (.inr (.inr (.inl f))) => do pure (f (← Reader.u2))
  | .inr (.inr (.inr (.inr (.inl f)))) => do pure (f (← Reader.s2))
  | .inr (.inr (.inr (.inr (.inr _)))) => do pure (.iinc (← Reader.u1) (← Reader.s1))
noncomputable def zIso (k : zFk) : Bool := match k with
  | .inr (.inr (.inr (.inr (.inr false)))) => true
  | _ => false
noncomputable def zfL : List (List zFk) := [[.inl (.nop), .inl (.aconst_null), .inl (.iconst (-1)), .inl (.iconst (0)), .inl (.iconst (1)), .inl (.iconst (2)), .inl (.iconst (3)), .inl (.iconst (4)), .inl (.iconst (5)), .inl (.lconst 0), .inl (.lconst 1), zF0, zF0, zF0, zF0, zF0],
  [.inr (.inr (.inl fun a => .bipush a)), .inr (.inr (.inr (.inr (.inl fun a => .sipush a)))), .inr (.inl fun a => .ldc a), .inr (.inr (.inr (.inl fun a => .ldc_w a))), .inr (.inr (.inr (.inl fun a => .ldc2_w a))), .inr (.inl fun a => .iload a), .inr (.inl fun a => .lload a), zF0, zF0, .inr (.inl fun a => .aload a), .inl (.iload_n 0), .inl (.iload_n 1), .inl (.iload_n 2), .inl (.iload_n 3), .inl (.lload_n 0), .inl (.lload_n 1)],
  [.inl (.lload_n 2), .inl (.lload_n 3), zF0, zF0, zF0, zF0, zF0, zF0, zF0, zF0, .inl (.aload_n 0), .inl (.aload_n 1), .inl (.aload_n 2), .inl (.aload_n 3), .inl (.iaload), .inl (.laload)],
  [zF0, zF0, .inl (.aaload), .inl (.baload), zF0, zF0, .inr (.inl fun a => .istore a), .inr (.inl fun a => .lstore a), zF0, zF0, .inr (.inl fun a => .astore a), .inl (.istore_n 0), .inl (.istore_n 1), .inl (.istore_n 2), .inl (.istore_n 3), .inl (.lstore_n 0)],
  [.inl (.lstore_n 1), .inl (.lstore_n 2), .inl (.lstore_n 3), zF0, zF0, zF0, zF0, zF0, zF0, zF0, zF0, .inl (.astore_n 0), .inl (.astore_n 1), .inl (.astore_n 2), .inl (.astore_n 3), .inl (.iastore)],
  [.inl (.lastore), zF0, zF0, .inl (.aastore), .inl (.bastore), zF0, zF0, .inl (.pop), .inl (.pop2), .inl (.dup), zF0, zF0, .inl (.dup2), zF0, zF0, zF0],
  [.inl (.iadd), .inl (.ladd), zF0, zF0, .inl (.isub), zF0, zF0, zF0, .inl (.imul), .inl (.lmul), zF0, zF0, .inl (.idiv), .inl (.ldiv), zF0, zF0],
  [.inl (.irem), zF0, zF0, zF0, zF0, zF0, zF0, zF0, .inl (.ishl), zF0, .inl (.ishr), zF0, .inl (.iushr), zF0, .inl (.iand), zF0],
  [.inl (.ior), zF0, .inl (.ixor), zF0, .inr (.inr (.inr (.inr (.inr true)))), .inl (.i2l), zF0, zF0, .inl (.l2i), zF0, zF0, zF0, zF0, zF0, zF0, zF0],
  [zF0, .inl (.i2b), zF0, zF0, .inl (.lcmp), zF0, zF0, zF0, zF0, .inr (.inr (.inr (.inr (.inl fun a => .ifCond .eq a)))), .inr (.inr (.inr (.inr (.inl fun a => .ifCond .ne a)))), .inr (.inr (.inr (.inr (.inl fun a => .ifCond .lt a)))), .inr (.inr (.inr (.inr (.inl fun a => .ifCond .ge a)))), .inr (.inr (.inr (.inr (.inl fun a => .ifCond .gt a)))), .inr (.inr (.inr (.inr (.inl fun a => .ifCond .le a)))), .inr (.inr (.inr (.inr (.inl fun a => .if_icmp .eq a))))],
  [.inr (.inr (.inr (.inr (.inl fun a => .if_icmp .ne a)))), .inr (.inr (.inr (.inr (.inl fun a => .if_icmp .lt a)))), .inr (.inr (.inr (.inr (.inl fun a => .if_icmp .ge a)))), .inr (.inr (.inr (.inr (.inl fun a => .if_icmp .gt a)))), .inr (.inr (.inr (.inr (.inl fun a => .if_icmp .le a)))), .inr (.inr (.inr (.inr (.inl fun a => .if_acmp .eq a)))), .inr (.inr (.inr (.inr (.inl fun a => .if_acmp .ne a)))), .inr (.inr (.inr (.inr (.inl fun a => .goto a)))), zF0, zF0, zF0, zF0, .inl (.ireturn), .inl (.lreturn), zF0, zF0],
  [.inl (.areturn), .inl (.return_), .inr (.inr (.inr (.inl fun a => .getstatic a))), .inr (.inr (.inr (.inl fun a => .putstatic a))), .inr (.inr (.inr (.inl fun a => .getfield a))), .inr (.inr (.inr (.inl fun a => .putfield a))), .inr (.inr (.inr (.inl fun a => .invokevirtual a))), .inr (.inr (.inr (.inl fun a => .invokespecial a))), .inr (.inr (.inr (.inl fun a => .invokestatic a))), zF0, zF0, .inr (.inr (.inr (.inl fun a => .new a))), zF0, .inr (.inr (.inr (.inl fun a => .anewarray a))), .inl (.arraylength), .inl (.athrow)],
  [.inr (.inr (.inr (.inl fun a => .checkcast a))), zF0, zF0, zF0, zF0, zF0, .inr (.inr (.inr (.inr (.inl fun a => .ifnull a)))), .inr (.inr (.inr (.inr (.inl fun a => .ifnonnull a)))), zF0, zF0, zF0, zF0, zF0, zF0, zF0, zF0]]
noncomputable def zfk (b : Nat) : zFk := match zfL[b / 16]? with
  | some L => (match L[b % 16]? with | some k => k | none => zF0)
  | none => zF0
noncomputable def zOkb (b : Nat) : Prop := ∀ pc, zfct.1 pc b = zfr (zfk b)
theorem zOkb_of {b : Nat} (k : zFk) (h : zfk b = k) (h2 : ∀ pc, zfct.1 pc b = zfr k) : zOkb b := fun pc => by rw [h, h2]
theorem zdk_0 : zOkb 0 := zOkb_of (.inl (.nop)) rfl (fun _ => rfl)
theorem zdk_1 : zOkb 1 := zOkb_of (.inl (.aconst_null)) rfl (fun _ => rfl)
theorem zdk_2 : zOkb 2 := zOkb_of (.inl (.iconst (-1))) rfl (fun _ => rfl)
theorem zdk_3 : zOkb 3 := zOkb_of (.inl (.iconst (0))) rfl (fun _ => rfl)
theorem zdk_4 : zOkb 4 := zOkb_of (.inl (.iconst (1))) rfl (fun _ => rfl)
theorem zdk_5 : zOkb 5 := zOkb_of (.inl (.iconst (2))) rfl (fun _ => rfl)
theorem zdk_6 : zOkb 6 := zOkb_of (.inl (.iconst (3))) rfl (fun _ => rfl)
theorem zdk_7 : zOkb 7 := zOkb_of (.inl (.iconst (4))) rfl (fun _ => rfl)
theorem zdk_8 : zOkb 8 := zOkb_of (.inl (.iconst (5))) rfl (fun _ => rfl)
theorem zdk_9 : zOkb 9 := zOkb_of (.inl (.lconst 0)) rfl (fun _ => rfl)
theorem zdk_10 : zOkb 10 := zOkb_of (.inl (.lconst 1)) rfl (fun _ => rfl)
theorem zdk_16 : zOkb 16 := zOkb_of (.inr (.inr (.inl fun a => .bipush a))) rfl (fun _ => rfl)
theorem zdk_17 : zOkb 17 := zOkb_of (.inr (.inr (.inr (.inr (.inl fun a => .sipush a))))) rfl (fun _ => rfl)
theorem zdk_18 : zOkb 18 := zOkb_of (.inr (.inl fun a => .ldc a)) rfl (fun _ => rfl)
theorem zdk_19 : zOkb 19 := zOkb_of (.inr (.inr (.inr (.inl fun a => .ldc_w a)))) rfl (fun _ => rfl)
theorem zdk_20 : zOkb 20 := zOkb_of (.inr (.inr (.inr (.inl fun a => .ldc2_w a)))) rfl (fun _ => rfl)
theorem zdk_21 : zOkb 21 := zOkb_of (.inr (.inl fun a => .iload a)) rfl (fun _ => rfl)
theorem zdk_22 : zOkb 22 := zOkb_of (.inr (.inl fun a => .lload a)) rfl (fun _ => rfl)
theorem zdk_25 : zOkb 25 := zOkb_of (.inr (.inl fun a => .aload a)) rfl (fun _ => rfl)
theorem zdk_26 : zOkb 26 := zOkb_of (.inl (.iload_n 0)) rfl (fun _ => rfl)
theorem zdk_27 : zOkb 27 := zOkb_of (.inl (.iload_n 1)) rfl (fun _ => rfl)
theorem zdk_28 : zOkb 28 := zOkb_of (.inl (.iload_n 2)) rfl (fun _ => rfl)
theorem zdk_29 : zOkb 29 := zOkb_of (.inl (.iload_n 3)) rfl (fun _ => rfl)
theorem zdk_30 : zOkb 30 := zOkb_of (.inl (.lload_n 0)) rfl (fun _ => rfl)
theorem zdk_31 : zOkb 31 := zOkb_of (.inl (.lload_n 1)) rfl (fun _ => rfl)
theorem zdk_32 : zOkb 32 := zOkb_of (.inl (.lload_n 2)) rfl (fun _ => rfl)
theorem zdk_33 : zOkb 33 := zOkb_of (.inl (.lload_n 3)) rfl (fun _ => rfl)
theorem zdk_42 : zOkb 42 := zOkb_of (.inl (.aload_n 0)) rfl (fun _ => rfl)
theorem zdk_43 : zOkb 43 := zOkb_of (.inl (.aload_n 1)) rfl (fun _ => rfl)
theorem zdk_44 : zOkb 44 := zOkb_of (.inl (.aload_n 2)) rfl (fun _ => rfl)
theorem zdk_45 : zOkb 45 := zOkb_of (.inl (.aload_n 3)) rfl (fun _ => rfl)
theorem zdk_46 : zOkb 46 := zOkb_of (.inl (.iaload)) rfl (fun _ => rfl)
theorem zdk_47 : zOkb 47 := zOkb_of (.inl (.laload)) rfl (fun _ => rfl)
theorem zdk_50 : zOkb 50 := zOkb_of (.inl (.aaload)) rfl (fun _ => rfl)
theorem zdk_51 : zOkb 51 := zOkb_of (.inl (.baload)) rfl (fun _ => rfl)
theorem zdk_54 : zOkb 54 := zOkb_of (.inr (.inl fun a => .istore a)) rfl (fun _ => rfl)
theorem zdk_55 : zOkb 55 := zOkb_of (.inr (.inl fun a => .lstore a)) rfl (fun _ => rfl)
theorem zdk_58 : zOkb 58 := zOkb_of (.inr (.inl fun a => .astore a)) rfl (fun _ => rfl)
theorem zdk_59 : zOkb 59 := zOkb_of (.inl (.istore_n 0)) rfl (fun _ => rfl)
theorem zdk_60 : zOkb 60 := zOkb_of (.inl (.istore_n 1)) rfl (fun _ => rfl)
theorem zdk_61 : zOkb 61 := zOkb_of (.inl (.istore_n 2)) rfl (fun _ => rfl)
theorem zdk_62 : zOkb 62 := zOkb_of (.inl (.istore_n 3)) rfl (fun _ => rfl)
theorem zdk_63 : zOkb 63 := zOkb_of (.inl (.lstore_n 0)) rfl (fun _ => rfl)
theorem zdk_64 : zOkb 64 := zOkb_of (.inl (.lstore_n 1)) rfl (fun _ => rfl)
theorem zdk_65 : zOkb 65 := zOkb_of (.inl (.lstore_n 2)) rfl (fun _ => rfl)
theorem zdk_66 : zOkb 66 := zOkb_of (.inl (.lstore_n 3)) rfl (fun _ => rfl)
theorem zdk_75 : zOkb 75 := zOkb_of (.inl (.astore_n 0)) rfl (fun _ => rfl)
theorem zdk_76 : zOkb 76 := zOkb_of (.inl (.astore_n 1)) rfl (fun _ => rfl)
theorem zdk_77 : zOkb 77 := zOkb_of (.inl (.astore_n 2)) rfl (fun _ => rfl)
theorem zdk_78 : zOkb 78 := zOkb_of (.inl (.astore_n 3)) rfl (fun _ => rfl)
theorem zdk_79 : zOkb 79 := zOkb_of (.inl (.iastore)) rfl (fun _ => rfl)
theorem zdk_80 : zOkb 80 := zOkb_of (.inl (.lastore)) rfl (fun _ => rfl)
theorem zdk_83 : zOkb 83 := zOkb_of (.inl (.aastore)) rfl (fun _ => rfl)
theorem zdk_84 : zOkb 84 := zOkb_of (.inl (.bastore)) rfl (fun _ => rfl)
theorem zdk_87 : zOkb 87 := zOkb_of (.inl (.pop)) rfl (fun _ => rfl)
theorem zdk_88 : zOkb 88 := zOkb_of (.inl (.pop2)) rfl (fun _ => rfl)
theorem zdk_89 : zOkb 89 := zOkb_of (.inl (.dup)) rfl (fun _ => rfl)
theorem zdk_92 : zOkb 92 := zOkb_of (.inl (.dup2)) rfl (fun _ => rfl)
theorem zdk_96 : zOkb 96 := zOkb_of (.inl (.iadd)) rfl (fun _ => rfl)
theorem zdk_97 : zOkb 97 := zOkb_of (.inl (.ladd)) rfl (fun _ => rfl)
theorem zdk_100 : zOkb 100 := zOkb_of (.inl (.isub)) rfl (fun _ => rfl)
theorem zdk_104 : zOkb 104 := zOkb_of (.inl (.imul)) rfl (fun _ => rfl)
theorem zdk_105 : zOkb 105 := zOkb_of (.inl (.lmul)) rfl (fun _ => rfl)
theorem zdk_108 : zOkb 108 := zOkb_of (.inl (.idiv)) rfl (fun _ => rfl)
theorem zdk_109 : zOkb 109 := zOkb_of (.inl (.ldiv)) rfl (fun _ => rfl)
theorem zdk_112 : zOkb 112 := zOkb_of (.inl (.irem)) rfl (fun _ => rfl)
theorem zdk_120 : zOkb 120 := zOkb_of (.inl (.ishl)) rfl (fun _ => rfl)
theorem zdk_122 : zOkb 122 := zOkb_of (.inl (.ishr)) rfl (fun _ => rfl)
theorem zdk_124 : zOkb 124 := zOkb_of (.inl (.iushr)) rfl (fun _ => rfl)
theorem zdk_126 : zOkb 126 := zOkb_of (.inl (.iand)) rfl (fun _ => rfl)
theorem zdk_128 : zOkb 128 := zOkb_of (.inl (.ior)) rfl (fun _ => rfl)
theorem zdk_130 : zOkb 130 := zOkb_of (.inl (.ixor)) rfl (fun _ => rfl)
theorem zdk_132 : zOkb 132 := zOkb_of (.inr (.inr (.inr (.inr (.inr true))))) rfl (fun _ => rfl)
theorem zdk_133 : zOkb 133 := zOkb_of (.inl (.i2l)) rfl (fun _ => rfl)
theorem zdk_136 : zOkb 136 := zOkb_of (.inl (.l2i)) rfl (fun _ => rfl)
theorem zdk_145 : zOkb 145 := zOkb_of (.inl (.i2b)) rfl (fun _ => rfl)
theorem zdk_148 : zOkb 148 := zOkb_of (.inl (.lcmp)) rfl (fun _ => rfl)
theorem zdk_153 : zOkb 153 := zOkb_of (.inr (.inr (.inr (.inr (.inl fun a => .ifCond .eq a))))) rfl (fun _ => rfl)
theorem zdk_154 : zOkb 154 := zOkb_of (.inr (.inr (.inr (.inr (.inl fun a => .ifCond .ne a))))) rfl (fun _ => rfl)
theorem zdk_155 : zOkb 155 := zOkb_of (.inr (.inr (.inr (.inr (.inl fun a => .ifCond .lt a))))) rfl (fun _ => rfl)
theorem zdk_156 : zOkb 156 := zOkb_of (.inr (.inr (.inr (.inr (.inl fun a => .ifCond .ge a))))) rfl (fun _ => rfl)
theorem zdk_157 : zOkb 157 := zOkb_of (.inr (.inr (.inr (.inr (.inl fun a => .ifCond .gt a))))) rfl (fun _ => rfl)
theorem zdk_158 : zOkb 158 := zOkb_of (.inr (.inr (.inr (.inr (.inl fun a => .ifCond .le a))))) rfl (fun _ => rfl)
theorem zdk_159 : zOkb 159 := zOkb_of (.inr (.inr (.inr (.inr (.inl fun a => .if_icmp .eq a))))) rfl (fun _ => rfl)
theorem zdk_160 : zOkb 160 := zOkb_of (.inr (.inr (.inr (.inr (.inl fun a => .if_icmp .ne a))))) rfl (fun _ => rfl)
theorem zdk_161 : zOkb 161 := zOkb_of (.inr (.inr (.inr (.inr (.inl fun a => .if_icmp .lt a))))) rfl (fun _ => rfl)
theorem zdk_162 : zOkb 162 := zOkb_of (.inr (.inr (.inr (.inr (.inl fun a => .if_icmp .ge a))))) rfl (fun _ => rfl)
theorem zdk_163 : zOkb 163 := zOkb_of (.inr (.inr (.inr (.inr (.inl fun a => .if_icmp .gt a))))) rfl (fun _ => rfl)
theorem zdk_164 : zOkb 164 := zOkb_of (.inr (.inr (.inr (.inr (.inl fun a => .if_icmp .le a))))) rfl (fun _ => rfl)
theorem zdk_165 : zOkb 165 := zOkb_of (.inr (.inr (.inr (.inr (.inl fun a => .if_acmp .eq a))))) rfl (fun _ => rfl)
theorem zdk_166 : zOkb 166 := zOkb_of (.inr (.inr (.inr (.inr (.inl fun a => .if_acmp .ne a))))) rfl (fun _ => rfl)
theorem zdk_167 : zOkb 167 := zOkb_of (.inr (.inr (.inr (.inr (.inl fun a => .goto a))))) rfl (fun _ => rfl)
theorem zdk_172 : zOkb 172 := zOkb_of (.inl (.ireturn)) rfl (fun _ => rfl)
theorem zdk_173 : zOkb 173 := zOkb_of (.inl (.lreturn)) rfl (fun _ => rfl)
theorem zdk_176 : zOkb 176 := zOkb_of (.inl (.areturn)) rfl (fun _ => rfl)
theorem zdk_177 : zOkb 177 := zOkb_of (.inl (.return_)) rfl (fun _ => rfl)
theorem zdk_178 : zOkb 178 := zOkb_of (.inr (.inr (.inr (.inl fun a => .getstatic a)))) rfl (fun _ => rfl)
theorem zdk_179 : zOkb 179 := zOkb_of (.inr (.inr (.inr (.inl fun a => .putstatic a)))) rfl (fun _ => rfl)
theorem zdk_180 : zOkb 180 := zOkb_of (.inr (.inr (.inr (.inl fun a => .getfield a)))) rfl (fun _ => rfl)
theorem zdk_181 : zOkb 181 := zOkb_of (.inr (.inr (.inr (.inl fun a => .putfield a)))) rfl (fun _ => rfl)
theorem zdk_182 : zOkb 182 := zOkb_of (.inr (.inr (.inr (.inl fun a => .invokevirtual a)))) rfl (fun _ => rfl)
theorem zdk_183 : zOkb 183 := zOkb_of (.inr (.inr (.inr (.inl fun a => .invokespecial a)))) rfl (fun _ => rfl)
theorem zdk_184 : zOkb 184 := zOkb_of (.inr (.inr (.inr (.inl fun a => .invokestatic a)))) rfl (fun _ => rfl)
theorem zdk_187 : zOkb 187 := zOkb_of (.inr (.inr (.inr (.inl fun a => .new a)))) rfl (fun _ => rfl)
theorem zdk_189 : zOkb 189 := zOkb_of (.inr (.inr (.inr (.inl fun a => .anewarray a)))) rfl (fun _ => rfl)
theorem zdk_190 : zOkb 190 := zOkb_of (.inl (.arraylength)) rfl (fun _ => rfl)
theorem zdk_191 : zOkb 191 := zOkb_of (.inl (.athrow)) rfl (fun _ => rfl)
theorem zdk_192 : zOkb 192 := zOkb_of (.inr (.inr (.inr (.inl fun a => .checkcast a)))) rfl (fun _ => rfl)
theorem zdk_198 : zOkb 198 := zOkb_of (.inr (.inr (.inr (.inr (.inl fun a => .ifnull a))))) rfl (fun _ => rfl)
theorem zdk_199 : zOkb 199 := zOkb_of (.inr (.inr (.inr (.inr (.inl fun a => .ifnonnull a))))) rfl (fun _ => rfl)
noncomputable def zfB : List Nat := [0, 1, 2, 3, 4, 5, 6, 7, 8, 9, 10, 16, 17, 18, 19, 20, 21, 22, 25, 26, 27, 28, 29, 30, 31, 32, 33, 42, 43, 44, 45, 46, 47, 50, 51, 54, 55, 58, 59, 60, 61, 62, 63, 64, 65, 66, 75, 76, 77, 78, 79, 80, 83, 84, 87, 88, 89, 92, 96, 97, 100, 104, 105, 108, 109, 112, 120, 122, 124, 126, 128, 130, 132, 133, 136, 145, 148, 153, 154, 155, 156, 157, 158, 159, 160, 161, 162, 163, 164, 165, 166, 167, 172, 173, 176, 177, 178, 179, 180, 181, 182, 183, 184, 187, 189, 190, 191, 192, 198, 199]
theorem zOkb_all : ∀ b ∈ zfB, zOkb b := by
  intro b hb
  simp only [zfB, List.mem_cons, List.not_mem_nil, or_false] at hb
  rcases hb with rfl | rfl | rfl | rfl | rfl | rfl | rfl | rfl | rfl | rfl | rfl | rfl | rfl | rfl | rfl | rfl | rfl | rfl | rfl | rfl | rfl | rfl | rfl | rfl | rfl | rfl | rfl | rfl | rfl | rfl | rfl | rfl | rfl | rfl | rfl | rfl | rfl | rfl | rfl | rfl | rfl | rfl | rfl | rfl | rfl | rfl | rfl | rfl | rfl | rfl | rfl | rfl | rfl | rfl | rfl | rfl | rfl | rfl | rfl | rfl | rfl | rfl | rfl | rfl | rfl | rfl | rfl | rfl | rfl | rfl | rfl | rfl | rfl | rfl | rfl | rfl | rfl | rfl | rfl | rfl | rfl | rfl | rfl | rfl | rfl | rfl | rfl | rfl | rfl | rfl | rfl | rfl | rfl | rfl | rfl | rfl | rfl | rfl | rfl | rfl | rfl | rfl | rfl | rfl | rfl | rfl | rfl | rfl | rfl | rfl
  · exact zdk_0
  · exact zdk_1
  · exact zdk_2
  · exact zdk_3
  · exact zdk_4
  · exact zdk_5
  · exact zdk_6
  · exact zdk_7
  · exact zdk_8
  · exact zdk_9
  · exact zdk_10
  · exact zdk_16
  · exact zdk_17
  · exact zdk_18
  · exact zdk_19
  · exact zdk_20
  · exact zdk_21
  · exact zdk_22
  · exact zdk_25
  · exact zdk_26
  · exact zdk_27
  · exact zdk_28
  · exact zdk_29
  · exact zdk_30
  · exact zdk_31
  · exact zdk_32
  · exact zdk_33
  · exact zdk_42
  · exact zdk_43
  · exact zdk_44
  · exact zdk_45
  · exact zdk_46
  · exact zdk_47
  · exact zdk_50
  · exact zdk_51
  · exact zdk_54
  · exact zdk_55
  · exact zdk_58
  · exact zdk_59
  · exact zdk_60
  · exact zdk_61
  · exact zdk_62
  · exact zdk_63
  · exact zdk_64
  · exact zdk_65
  · exact zdk_66
  · exact zdk_75
  · exact zdk_76
  · exact zdk_77
  · exact zdk_78
  · exact zdk_79
  · exact zdk_80
  · exact zdk_83
  · exact zdk_84
  · exact zdk_87
  · exact zdk_88
  · exact zdk_89
  · exact zdk_92
  · exact zdk_96
  · exact zdk_97
  · exact zdk_100
  · exact zdk_104
  · exact zdk_105
  · exact zdk_108
  · exact zdk_109
  · exact zdk_112
  · exact zdk_120
  · exact zdk_122
  · exact zdk_124
  · exact zdk_126
  · exact zdk_128
  · exact zdk_130
  · exact zdk_132
  · exact zdk_133
  · exact zdk_136
  · exact zdk_145
  · exact zdk_148
  · exact zdk_153
  · exact zdk_154
  · exact zdk_155
  · exact zdk_156
  · exact zdk_157
  · exact zdk_158
  · exact zdk_159
  · exact zdk_160
  · exact zdk_161
  · exact zdk_162
  · exact zdk_163
  · exact zdk_164
  · exact zdk_165
  · exact zdk_166
  · exact zdk_167
  · exact zdk_172
  · exact zdk_173
  · exact zdk_176
  · exact zdk_177
  · exact zdk_178
  · exact zdk_179
  · exact zdk_180
  · exact zdk_181
  · exact zdk_182
  · exact zdk_183
  · exact zdk_184
  · exact zdk_187
  · exact zdk_189
  · exact zdk_190
  · exact zdk_191
  · exact zdk_192
  · exact zdk_198
  · exact zdk_199
theorem zfB_k : (List.range 256).all (fun b => zIso (zfk b) || zfB.contains b) = true := by decide +kernel
theorem zfk_ok {b : Nat} (hb : b < 256) (h : zIso (zfk b) = false) : zOkb b := by
  have k := List.all_eq_true.mp zfB_k b (List.mem_range.mpr hb)
  rw [h, Bool.false_or] at k
  exact zOkb_all b (List.contains_iff_mem.mp k)
theorem zrd_bind {α β : Type} {r : Decoder α} {F : α → Decoder β} {code : ByteArray} {p p' : Nat} {a : α} (h : r code p = .ok (a, p')) : (r >>= F) code p = F a code p' := by
  show Except.bind (r code p) (fun q => F q.1 code q.2) = _
  rw [h]
  rfl
theorem zrd_map {α β : Type} {r : Decoder α} {f : α → β} {code : ByteArray} {p p' : Nat} {a : α} (h : r code p = .ok (a, p')) : (f <$> r) code p = .ok (f a, p') := by
  show Except.bind (r code p) (fun q => Except.ok (f q.1, q.2)) = _
  rw [h]
  rfl
theorem zrd_u1 {code : ByteArray} {p : Nat} {x : UInt8} (h : code.data.toList[p]? = some x) : (Reader.u1 : Decoder Nat) code p = .ok (x.toNat, p + 1) := by
  obtain ⟨hp0, hx0⟩ := List.getElem?_eq_some_iff.mp h
  have hp : p < code.size := by
    have : code.size = code.data.size := rfl
    rw [this]
    simpa using hp0
  have hx : code[p]'hp = x := by
    rw [← hx0]
    rfl
  unfold Reader.u1
  show (if h : p < code.size then (do set (p + 1); pure (code[p]'h).toNat : Decoder Nat) else throw (HasTruncated.truncated p)) code p = _
  rw [dif_pos hp, ← hx]
  rfl
theorem zrd_u2 {code : ByteArray} {p : Nat} {x y : UInt8} (h : code.data.toList[p]? = some x) (h2 : code.data.toList[p + 1]? = some y) : (Reader.u2 : Decoder Nat) code p = .ok (x.toNat * 256 + y.toNat, p + 2) := by
  unfold Reader.u2
  rw [zrd_bind (zrd_u1 h), zrd_bind (zrd_u1 h2)]
  rfl
theorem zdec_of {code : ByteArray} {pc n : Nat} {i : Instr} (h : (Decoder.instr pc) code pc = .ok (i, pc + n)) : decode code pc = .ok (i, n) := by
  unfold decode
  show Except.bind ((Decoder.instr pc) code pc) (fun q => Except.ok (q.1, q.2 - pc)) = _
  rw [h]
  show Except.ok (i, pc + n - pc) = _
  rw [Nat.add_sub_cancel_left]
/-- the reader over the bytes that are left -/
noncomputable def zfde (code : ByteArray) (pc : Nat) (L : List UInt8) : Option (Instr × Nat) := match L with
  | [] => none
  | b :: r => match zfk b.toNat with
    | .inl i => some (i, 1)
    | .inr (.inl f) => (match r with | x :: _ => some (f x.toNat, 2) | _ => none)
    | .inr (.inr (.inl f)) => (match r with | x :: _ => some (f (Reader.signed 8 x.toNat), 2) | _ => none)
    | .inr (.inr (.inr (.inl f))) => (match r with | x :: y :: _ => some (f (x.toNat * 256 + y.toNat), 3) | _ => none)
    | .inr (.inr (.inr (.inr (.inl f)))) => (match r with | x :: y :: _ => some (f (Reader.signed 16 (x.toNat * 256 + y.toNat)), 3) | _ => none)
    | .inr (.inr (.inr (.inr (.inr true)))) => (match r with | x :: y :: _ => some (.iinc x.toNat (Reader.signed 8 y.toNat), 3) | _ => none)
    | .inr (.inr (.inr (.inr (.inr false)))) => (match decode code pc with | .ok q => some q | _ => none)
theorem zfd_ok {code : ByteArray} {pc : Nat} {L : List UInt8} {i : Instr} {n : Nat} (hL : code.data.toList.drop pc = L) (h : zfde code pc L = some (i, n)) : decode code pc = .ok (i, n) := by
  have hat : ∀ (k : Nat) (x : UInt8), L[k]? = some x → code.data.toList[pc + k]? = some x := fun k x hx => by rw [← List.getElem?_drop, hL]; exact hx
  match L, h, hat with
  | [], h, _ => cases h
  | b :: r, h, hat =>
    have h0 : (Reader.u1 : Decoder Nat) code pc = .ok (b.toNat, pc + 1) := zrd_u1 (hat 0 b rfl)
    have hk : zIso (zfk b.toNat) = false → (Decoder.instr pc) code pc = (zfr (zfk b.toNat)) code (pc + 1) := fun hi => by
      rw [zfct.2 pc, zrd_bind h0, zfk_ok (UInt8.toNat_lt b) hi pc]
    unfold zfde at h
    simp only at h
    generalize zfk b.toNat = K at h hk
    match K, h, hk with
    | .inl i, h, hk =>
      cases h
      exact zdec_of (by rw [hk rfl]; rfl)
    | .inr (.inl f), h, hk =>
      match r, h, hat with
      | x :: _, h, hat =>
        cases h
        exact zdec_of (by rw [hk rfl]; unfold zfr; simp only; rw [zrd_bind (zrd_u1 (hat 1 x rfl))]; rfl)
    | .inr (.inr (.inl f)), h, hk =>
      match r, h, hat with
      | x :: _, h, hat =>
        cases h
        exact zdec_of (by rw [hk rfl]; unfold zfr; simp only; rw [zrd_bind (r := Reader.s1) (zrd_map (zrd_u1 (hat 1 x rfl)))]; rfl)
    | .inr (.inr (.inr (.inl f))), h, hk =>
      match r, h, hat with
      | x :: y :: _, h, hat =>
        cases h
        exact zdec_of (by rw [hk rfl]; unfold zfr; simp only; rw [zrd_bind (zrd_u2 (hat 1 x rfl) (hat 2 y rfl))]; rfl)
    | .inr (.inr (.inr (.inr (.inl f)))), h, hk =>
      match r, h, hat with
      | x :: y :: _, h, hat =>
        cases h
        exact zdec_of (by rw [hk rfl]; unfold zfr; simp only; rw [zrd_bind (r := Reader.s2) (zrd_map (zrd_u2 (hat 1 x rfl) (hat 2 y rfl)))]; rfl)
    | .inr (.inr (.inr (.inr (.inr true)))), h, hk =>
      match r, h, hat with
      | x :: y :: _, h, hat =>
        cases h
        exact zdec_of (by rw [hk rfl]; unfold zfr; simp only; rw [zrd_bind (zrd_u1 (hat 1 x rfl)), zrd_bind (r := Reader.s1) (zrd_map (zrd_u1 (hat 2 y rfl)))]; rfl)
    | .inr (.inr (.inr (.inr (.inr false)))), h, _ =>
      simp only at h
      split at h
      · next q hq => cases h; exact hq
      · cases h
noncomputable def zfq (code : ByteArray) : Nat → List UInt8 → List (List Nat) → List zJ
  | _, _, [] => []
  | pc, L, w :: ws => match zfde code pc L with
    | some (i, n) => (pc, i, n, w) :: zfq code (pc + n) (L.drop n) ws
    | none => []
theorem zfq_mem {code : ByteArray} : ∀ {pc : Nat} {L : List UInt8} {ws : List (List Nat)}, code.data.toList.drop pc = L → ∀ q ∈ zfq code pc L ws, decode code q.1 = .ok (q.2.1, q.2.2.1)
  | _, _, [], _, q, hq => by cases hq
  | pc, L, w :: ws, hL, q, hq => by
    unfold zfq at hq
    split at hq
    · next i n e =>
      rcases List.mem_cons.mp hq with rfl | hq
      · exact zfd_ok hL e
      · exact zfq_mem (by rw [← hL, List.drop_drop]) q hq
    · cases hq
theorem zfq_dec {code : ByteArray} : ∀ {pc : Nat} {L : List UInt8} {ws : List (List Nat)}, code.data.toList.drop pc = L → (zfq code pc L ws).length = ws.length → z_dec code pc ws = zfq code pc L ws
  | _, _, [], _, _ => rfl
  | pc, L, w :: ws, hL, h => by
    unfold zfq at h ⊢
    unfold z_dec
    split at h
    · next i n e =>
      rw [zfd_ok hL e]
      simp only [e]
      rw [zfq_dec (L := L.drop n) (by rw [← hL, List.drop_drop]) (by simpa using h)]
    · simp at h
/-! the check of a row, its steps read already -/
noncomputable def z_ckBg (M : zMi) (g : Nat → Nat) (hs : List zHd) (i : zI) (q : zJ) (k : Nat) : Bool := match i.1 with
  | 50 => (match q.2.1 with | .ireturn => decide (q.2.2.1 = 1) | _ => false)
  | 51 => (match q.2.1 with | .lreturn => decide (q.2.2.1 = 1) && decide (M.2.2.2.2.1 = some .long) | _ => false)
  | 52 => (match q.2.1 with | .areturn => decide (q.2.2.1 = 1) && (match M.2.2.2.2.1 with | some (.object _) => true | some (.array _) => true | _ => false) | _ => false)
  | 53 => (match q.2.1 with | .return_ => decide (q.2.2.1 = 1) && decide (M.2.2.2.2.1 = none) | _ => false)
  | 62 => (match q.2.1, z_excs[i.2.1]?, z_ics[i.2.1]?, z_strs[i.2.2.1]? with
    | .new ik, some cls, some ic, some sq => decide (M.1 = RX11) && decide (hs = []) && decide (q.2.2.1 = 3) && z_w (.classLink M.1 ik cls) (q.2.2.2.getD 0 0) && z_w (.initialized cls) (q.2.2.2.getD 1 0) && decide (sq.1 = M.1) && decide (decode M.2.2.1 (q.1 + 3) = .ok (.dup, 1)) && ((decide (decode M.2.2.1 (q.1 + 4) = .ok (.ldc sq.2.1, 2)) && decide (decode M.2.2.1 (q.1 + 6) = .ok (.invokespecial ic, 3)) && decide (decode M.2.2.1 (q.1 + 9) = .ok (.athrow, 1))) || (decide (decode M.2.2.1 (q.1 + 4) = .ok (.ldc_w sq.2.1, 3)) && decide (decode M.2.2.1 (q.1 + 7) = .ok (.invokespecial ic, 3)) && decide (decode M.2.2.1 (q.1 + 10) = .ok (.athrow, 1))))
    | _, _, _, _ => false)
  | 54 => (match q.2.1, z_ms[i.2.1]? with
    | .invokevirtual idx, some M' => decide (q.2.2.1 = 3) && decide (g (k + 1) = q.1 + 3) && decide (M'.2.2.2.2.2 = []) && decide (M'.2.1.cls = M'.1) && decide ((vwCl[i.2.2.2.toNat]?).map (fun x => x.1) = some M'.1) && decide (0 ≤ i.2.2.2) && z_w (.methodLink M.1 idx M'.2.1) (q.2.2.2.getD 0 0) && z_w (.instanceMethod M'.2.1) (q.2.2.2.getD 1 0) && z_w (.selects M'.1 M'.2.1 M'.2.1) (q.2.2.2.getD 2 0) && z_w (.initialized M'.1) (q.2.2.2.getD 3 0) && z_w (.code M'.2.1 M'.2.2.1 M'.2.2.2.1 M'.2.2.2.2.1) (q.2.2.2.getD 4 0) && z_yok M'.2.1 i.2.2.1 && decide (M'.2.2.2.1 ≤ 41) && hs.all (fun x => decide (x.1 ≤ q.1) && decide (q.1 < x.2.1))
    | _, _ => false)
  | 55 => (match q.2.1, z_ms[i.2.1]? with
    | .invokestatic idx, some M' => decide (q.2.2.1 = 3) && decide (g (k + 1) = q.1 + 3) && decide (M'.2.2.2.2.2 = []) && decide (M'.2.1.cls = M'.1) && z_w (.methodLink M.1 idx M'.2.1) (q.2.2.2.getD 0 0) && z_w (.static M'.2.1) (q.2.2.2.getD 1 0) && z_w (.initialized M'.1) (q.2.2.2.getD 2 0) && z_w (.code M'.2.1 M'.2.2.1 M'.2.2.2.1 M'.2.2.2.2.1) (q.2.2.2.getD 3 0) && z_yok M'.2.1 i.2.2.1 && decide (M'.2.2.2.1 ≤ 41)
    | _, _ => false)
  | 72 => (match q.2.1, z_ms[i.2.1]? with
    | .invokestatic idx, some M' => decide (q.2.2.1 = 3) && decide (g (k + 1) = q.1 + 3) && !decide (M'.2.2.2.2.2 = []) && decide (M'.2.1.cls = M'.1) && z_w (.methodLink M.1 idx M'.2.1) (q.2.2.2.getD 0 0) && z_w (.static M'.2.1) (q.2.2.2.getD 1 0) && z_w (.initialized M'.1) (q.2.2.2.getD 2 0) && z_w (.codeWith M'.2.1 M'.2.2.1 M'.2.2.2.1 M'.2.2.2.2.1 M'.2.2.2.2.2) (q.2.2.2.getD 3 0) && z_yok M'.2.1 i.2.2.1 && decide (M'.2.2.2.1 ≤ 41)
    | _, _ => false)
  | 56 => (match q.2.1, z_ms[i.2.1]? with
    | .invokespecial idx, some M' => decide (q.2.2.1 = 3) && decide (g (k + 1) = q.1 + 3) && decide (M'.2.2.2.2.2 = []) && decide (M'.2.1.cls = M'.1) && decide (M'.2.1.name = "<init>") && decide (M'.2.2.2.2.1 = none) && z_w (.methodLink M.1 idx M'.2.1) (q.2.2.2.getD 0 0) && z_w (.instanceMethod M'.2.1) (q.2.2.2.getD 1 0) && z_w (.initialized M'.1) (q.2.2.2.getD 2 0) && z_w (.code M'.2.1 M'.2.2.1 M'.2.2.2.1 none) (q.2.2.2.getD 3 0) && z_yok M'.2.1 i.2.2.1 && decide (M'.2.2.2.1 ≤ 41)
    | _, _ => false)
  | 73 => (match q.2.1, z_ms[i.2.1]? with
    | .invokespecial idx, some M' => decide (q.2.2.1 = 3) && decide (g (k + 1) = q.1 + 3) && decide (M'.2.2.2.2.2 = []) && decide (M'.2.1.cls = M'.1) && decide (M'.2.1.name = "<init>") && decide (M'.2.2.2.2.1 = none) && decide (Cond.methodLinkNest M.1 idx M'.2.1 RX11 ∈ z_nest) && z_w (.instanceMethod M'.2.1) (q.2.2.2.getD 0 0) && z_w (.initialized M'.1) (q.2.2.2.getD 1 0) && z_w (.code M'.2.1 M'.2.2.1 M'.2.2.2.1 none) (q.2.2.2.getD 2 0) && z_yok M'.2.1 i.2.2.1 && decide (M'.2.2.2.1 ≤ 41)
    | _, _ => false)
  | o => (z_cks.getD o zk_no) M i.2.1 i.2.2.1 i.2.2.2 q.1 q.2.1 q.2.2.1 q.2.2.2 g k
theorem z_ckBg_eq {M : zMi} {is : List zJ} {hs : List zHd} {i : zI} {q : zJ} {k : Nat} : z_ckBg M (z_nxOf is) hs i q k = z_ckB M is hs i q k := rfl
/-- the tails of the steps from each 32nd on: a step is found among 32 -/
noncomputable def zchj : Nat → List zJ → List (List zJ)
  | 0, _ => []
  | n + 1, L => L :: zchj n (L.drop 32)
theorem zchj_at : ∀ (n k : Nat) (L X : List zJ), (zchj n L)[k]? = some X → X = L.drop (32 * k)
  | 0, _, _, _, h => by simp [zchj] at h
  | n + 1, 0, L, X, h => by
    simp only [zchj, List.getElem?_cons_zero, Option.some.injEq] at h
    rw [← h]
    rfl
  | n + 1, k + 1, L, X, h => by
    simp only [zchj, List.getElem?_cons_succ] at h
    rw [zchj_at n k _ X h, List.drop_drop]
    congr 1
    omega
noncomputable def zgt (is : List zJ) (T : List (List zJ)) (a : Nat) : Nat := match T[a / 32]? with
  | some L => (match L[a % 32]? with | some q => q.1 | none => 0)
  | none => z_nxOf is a
theorem zgt_eq (is : List zJ) (n a : Nat) : zgt is (zchj n is) a = z_nxOf is a := by
  unfold zgt
  split
  · next L e =>
    rw [zchj_at n _ is L e, List.getElem?_drop, show 32 * (a / 32) + a % 32 = a by omega]
    unfold z_nxOf
    cases is[a]? <;> rfl
  · rfl
noncomputable def zgx (is : List zJ) (T : List (List zJ)) (k : Nat) (qs : List zJ) : Nat → Nat := fun j => match Nat.beq j (k + 1), qs with
  | true, q :: _ => q.1
  | _, _ => zgt is T j
theorem zgx_eq {is : List zJ} {n k : Nat} {qs rs : List zJ} (h : is.drop (k + 1) = qs ++ rs) : zgx is (zchj n is) k qs = z_nxOf is := funext fun j => by
  unfold zgx
  split
  · next q r e =>
    have e2 : j = k + 1 := Nat.eq_of_beq_eq_true e
    subst e2
    unfold z_nxOf
    have e3 : is[k + 1]? = some q := by
      have := List.getElem?_drop (xs := is) (i := k + 1) (j := 0)
      rw [h] at this
      exact this.symm
    rw [e3]
    rfl
  · exact zgt_eq is n j
/-! calls and fields by numbers -/
theorem z_ckBg54 {M : zMi} {g : Nat → Nat} {hs : List zHd} {i : zI} {q : zJ} {k : Nat} (h : i.1 = 54) : z_ckBg M g hs i q k = (match q.2.1, z_ms[i.2.1]? with
    | .invokevirtual idx, some M' => decide (q.2.2.1 = 3) && decide (g (k + 1) = q.1 + 3) && decide (M'.2.2.2.2.2 = []) && decide (M'.2.1.cls = M'.1) && decide ((vwCl[i.2.2.2.toNat]?).map (fun x => x.1) = some M'.1) && decide (0 ≤ i.2.2.2) && z_w (.methodLink M.1 idx M'.2.1) (q.2.2.2.getD 0 0) && z_w (.instanceMethod M'.2.1) (q.2.2.2.getD 1 0) && z_w (.selects M'.1 M'.2.1 M'.2.1) (q.2.2.2.getD 2 0) && z_w (.initialized M'.1) (q.2.2.2.getD 3 0) && z_w (.code M'.2.1 M'.2.2.1 M'.2.2.2.1 M'.2.2.2.2.1) (q.2.2.2.getD 4 0) && z_yok M'.2.1 i.2.2.1 && decide (M'.2.2.2.1 ≤ 41) && hs.all (fun x => decide (x.1 ≤ q.1) && decide (q.1 < x.2.1))
    | _, _ => false) := by
  unfold z_ckBg
  rw [h]
  all_goals rfl
theorem z_ckBg55 {M : zMi} {g : Nat → Nat} {hs : List zHd} {i : zI} {q : zJ} {k : Nat} (h : i.1 = 55) : z_ckBg M g hs i q k = (match q.2.1, z_ms[i.2.1]? with
    | .invokestatic idx, some M' => decide (q.2.2.1 = 3) && decide (g (k + 1) = q.1 + 3) && decide (M'.2.2.2.2.2 = []) && decide (M'.2.1.cls = M'.1) && z_w (.methodLink M.1 idx M'.2.1) (q.2.2.2.getD 0 0) && z_w (.static M'.2.1) (q.2.2.2.getD 1 0) && z_w (.initialized M'.1) (q.2.2.2.getD 2 0) && z_w (.code M'.2.1 M'.2.2.1 M'.2.2.2.1 M'.2.2.2.2.1) (q.2.2.2.getD 3 0) && z_yok M'.2.1 i.2.2.1 && decide (M'.2.2.2.1 ≤ 41)
    | _, _ => false) := by
  unfold z_ckBg
  rw [h]
  all_goals rfl
theorem z_ckBg72 {M : zMi} {g : Nat → Nat} {hs : List zHd} {i : zI} {q : zJ} {k : Nat} (h : i.1 = 72) : z_ckBg M g hs i q k = (match q.2.1, z_ms[i.2.1]? with
    | .invokestatic idx, some M' => decide (q.2.2.1 = 3) && decide (g (k + 1) = q.1 + 3) && !decide (M'.2.2.2.2.2 = []) && decide (M'.2.1.cls = M'.1) && z_w (.methodLink M.1 idx M'.2.1) (q.2.2.2.getD 0 0) && z_w (.static M'.2.1) (q.2.2.2.getD 1 0) && z_w (.initialized M'.1) (q.2.2.2.getD 2 0) && z_w (.codeWith M'.2.1 M'.2.2.1 M'.2.2.2.1 M'.2.2.2.2.1 M'.2.2.2.2.2) (q.2.2.2.getD 3 0) && z_yok M'.2.1 i.2.2.1 && decide (M'.2.2.2.1 ≤ 41)
    | _, _ => false) := by
  unfold z_ckBg
  rw [h]
  all_goals rfl
theorem z_ckBg37 {M : zMi} {g : Nat → Nat} {hs : List zHd} {i : zI} {q : zJ} {k : Nat} (h : i.1 = 37) : z_ckBg M g hs i q k = zk_get M i.2.1 i.2.2.1 i.2.2.2 q.1 q.2.1 q.2.2.1 q.2.2.2 g k := by
  unfold z_ckBg
  rw [h]
  all_goals rfl
theorem z_ckBg38 {M : zMi} {g : Nat → Nat} {hs : List zHd} {i : zI} {q : zJ} {k : Nat} (h : i.1 = 38) : z_ckBg M g hs i q k = zk_put M i.2.1 i.2.2.1 i.2.2.2 q.1 q.2.1 q.2.2.1 q.2.2.2 g k := by
  unfold z_ckBg
  rw [h]
  all_goals rfl
noncomputable def zfast (c : Nat) (M : zMi) (g : Nat → Nat) (hs : List zHd) (i : zI) (q : zJ) (k : Nat) : Bool := match i.1 with
  | 37 => (match q.2.1 with
    | .getfield idx => Nat.beq q.2.2.1 3 && Nat.beq (g (k + 1)) (q.1 + 3) && zffi zg7G (q.2.2.2.getD 0 0 / 32) [c, idx, i.2.1, i.2.2.1, q.2.2.2.getD 0 0]
    | _ => false)
  | 38 => (match q.2.1 with
    | .putfield idx => Nat.beq q.2.2.1 3 && Nat.beq (g (k + 1)) (q.1 + 3) && decide (0 ≤ i.2.2.2) && zffi zg8G (q.2.2.2.getD 0 0 / 32) [c, idx, i.2.1, i.2.2.1, q.2.2.2.getD 0 0, i.2.2.2.toNat]
    | _ => false)
  | 54 => (match q.2.1 with
    | .invokevirtual idx => Nat.beq q.2.2.1 3 && Nat.beq (g (k + 1)) (q.1 + 3) && decide (0 ≤ i.2.2.2) && zffi zgMG (q.2.2.2.getD 0 0 / 32) [c, idx, i.2.1, q.2.2.2.getD 0 0] && zffi zg4G (i.2.1 / 16) [i.2.1, i.2.2.1, i.2.2.2.toNat, q.2.2.2.getD 1 0, q.2.2.2.getD 2 0, q.2.2.2.getD 3 0, q.2.2.2.getD 4 0] && hs.all (fun x => decide (x.1 ≤ q.1) && decide (q.1 < x.2.1))
    | _ => false)
  | 55 => (match q.2.1 with
    | .invokestatic idx => Nat.beq q.2.2.1 3 && Nat.beq (g (k + 1)) (q.1 + 3) && zffi zgMG (q.2.2.2.getD 0 0 / 32) [c, idx, i.2.1, q.2.2.2.getD 0 0] && zffi zg5G (i.2.1 / 16) [i.2.1, i.2.2.1, q.2.2.2.getD 1 0, q.2.2.2.getD 2 0, q.2.2.2.getD 3 0]
    | _ => false)
  | 72 => (match q.2.1 with
    | .invokestatic idx => Nat.beq q.2.2.1 3 && Nat.beq (g (k + 1)) (q.1 + 3) && zffi zgMG (q.2.2.2.getD 0 0 / 32) [c, idx, i.2.1, q.2.2.2.getD 0 0] && zffi zg2G (i.2.1 / 16) [i.2.1, i.2.2.1, q.2.2.2.getD 1 0, q.2.2.2.getD 2 0, q.2.2.2.getD 3 0]
    | _ => false)
  | _ => false
theorem zfast_ok {c : Nat} {M : zMi} {g : Nat → Nat} {hs : List zHd} {i : zI} {q : zJ} {k : Nat} (hc : M.1 = zfcn c) (h : zfast c M g hs i q k = true) : z_ckBg M g hs i q k = true := by
  unfold zfast at h
  split at h
  · next e =>
    split at h
    case h_2 => cases h
    next idx e2 =>
    simp only [Bool.and_eq_true] at h
    obtain ⟨⟨h1, h2⟩, h3⟩ := h
    obtain ⟨q9, e9, h4, h5⟩ := (show zP37e _ from zffi_ok zg7A h3)
    rw [z_ckBg37 e]
    unfold zk_get
    simp only [e2, e9, Bool.and_eq_true, decide_eq_true_eq]
    exact ⟨⟨Nat.eq_of_beq_eq_true h1, Nat.eq_of_beq_eq_true h2⟩, h4, by rw [hc]; exact h5⟩
  · next e =>
    split at h
    case h_2 => cases h
    next idx e2 =>
    simp only [Bool.and_eq_true, decide_eq_true_eq] at h
    obtain ⟨⟨⟨h1, h2⟩, h0⟩, h3⟩ := h
    obtain ⟨q9, e9, h4, h5, h6, h7⟩ := (show zP38e _ from zffi_ok zg8A h3)
    rw [Int.toNat_of_nonneg h0] at h6
    rw [z_ckBg38 e]
    unfold zk_put
    simp only [e2, e9, Bool.and_eq_true, decide_eq_true_eq]
    exact ⟨⟨Nat.eq_of_beq_eq_true h1, Nat.eq_of_beq_eq_true h2⟩, ⟨⟨h4, by rw [hc]; exact h5⟩, h6⟩, by rw [h7]; rfl⟩
  · next e =>
    split at h
    case h_2 => cases h
    next idx e2 =>
    simp only [Bool.and_eq_true, decide_eq_true_eq] at h
    obtain ⟨⟨⟨⟨⟨h1, h2⟩, h0⟩, h3⟩, h4⟩, h5⟩ := h
    have hM := (show zPM _ _ _ _ from zffi_ok zgMA h3)
    obtain ⟨M', m0, m1, m2, m3, m4, m5, m6, m7, m8, m9⟩ := (show zP54e _ from zffi_ok zg4A h4)
    rw [z_ckBg54 e]
    simp only [e2, m0, Bool.and_eq_true, decide_eq_true_eq]
    exact ⟨⟨⟨⟨⟨⟨⟨⟨⟨⟨⟨⟨⟨Nat.eq_of_beq_eq_true h1, Nat.eq_of_beq_eq_true h2⟩, m1⟩, m2⟩, m3⟩, h0⟩, by rw [hc]; exact hM M' m0⟩, m4⟩, m5⟩, m6⟩, m7⟩, m8⟩, m9⟩, h5⟩
  · next e =>
    split at h
    case h_2 => cases h
    next idx e2 =>
    simp only [Bool.and_eq_true] at h
    obtain ⟨⟨⟨h1, h2⟩, h3⟩, h4⟩ := h
    have hM := (show zPM _ _ _ _ from zffi_ok zgMA h3)
    obtain ⟨M', m0, m1, m2, m4, m6, m7, m8, m9⟩ := (show zP55e _ from zffi_ok zg5A h4)
    rw [z_ckBg55 e]
    simp only [e2, m0, Bool.and_eq_true, decide_eq_true_eq]
    exact ⟨⟨⟨⟨⟨⟨⟨⟨⟨Nat.eq_of_beq_eq_true h1, Nat.eq_of_beq_eq_true h2⟩, m1⟩, m2⟩, by rw [hc]; exact hM M' m0⟩, m4⟩, m6⟩, m7⟩, m8⟩, m9⟩
  · next e =>
    split at h
    case h_2 => cases h
    next idx e2 =>
    simp only [Bool.and_eq_true] at h
    obtain ⟨⟨⟨h1, h2⟩, h3⟩, h4⟩ := h
    have hM := (show zPM _ _ _ _ from zffi_ok zgMA h3)
    obtain ⟨M', m0, m1, m2, m4, m6, m7, m8, m9⟩ := (show zP72e _ from zffi_ok zg2A h4)
    rw [z_ckBg72 e]
    simp only [e2, m0, Bool.and_eq_true, decide_eq_true_eq]
    exact ⟨⟨⟨⟨⟨⟨⟨⟨⟨Nat.eq_of_beq_eq_true h1, Nat.eq_of_beq_eq_true h2⟩, by rw [decide_eq_false m1]; rfl⟩, m2⟩, by rw [hc]; exact hM M' m0⟩, m4⟩, m6⟩, m7⟩, m8⟩, m9⟩
  · cases h
theorem zfastB {c : Nat} {M : zMi} {g : Nat → Nat} {hs : List zHd} {i : zI} {q : zJ} {k : Nat} (hc : M.1 = zfcn c) (h : (zfast c M g hs i q k || z_ckBg M g hs i q k) = true) : z_ckBg M g hs i q k = true := by
  rw [Bool.or_eq_true] at h
  exact h.elim (zfast_ok hc) id
noncomputable def z_ckLg (c : Nat) (M : zMi) (is : List zJ) (T : List (List zJ)) (hs : List zHd) : Nat → List zI → List zJ → Bool
  | _, [], [] => true
  | k, i :: cs, q :: qs => (Nat.beq i.1 99 || (zfast c M (zgx is T k qs) hs i q k || z_ckBg M (zgx is T k qs) hs i q k)) && z_ckLg c M is T hs (k + 1) cs qs
  | _, _, _ => false
theorem z_ckLg_ok {c : Nat} {M : zMi} {is : List zJ} {n : Nat} {hs : List zHd} (hc : M.1 = zfcn c) (hd : ∀ q ∈ is, decode M.2.2.1 q.1 = .ok (q.2.1, q.2.2.1)) : ∀ (k : Nat) (cs : List zI) (qs rs : List zJ), is.drop k = qs ++ rs → z_ckLg c M is (zchj n is) hs k cs qs = true → z_ckL M is hs k cs qs = true
  | _, [], [], _, _, _ => rfl
  | _, [], _ :: _, _, _, h => by cases h
  | _, _ :: _, [], _, _, h => by cases h
  | k, i :: cs, q :: qs, rs, hq, h => by
    have hn : is.drop (k + 1) = qs ++ rs := by
      rw [← List.drop_drop, hq]
      rfl
    rw [z_ckLg, Bool.and_eq_true] at h
    rw [z_ckL, Bool.and_eq_true]
    refine ⟨?_, z_ckLg_ok hc hd (k + 1) cs qs rs hn h.2⟩
    have h1 := h.1
    unfold z_ckA
    rw [Bool.or_eq_true] at h1 ⊢
    rcases h1 with h1 | h1
    · exact Or.inl (decide_eq_true (Nat.eq_of_beq_eq_true h1))
    · have h1 := zfastB hc h1
      rw [zgx_eq hn, z_ckBg_eq] at h1
      refine Or.inr ?_
      rw [Bool.and_eq_true]
      exact ⟨decide_eq_true (hd q (List.mem_of_mem_drop (by rw [hq]; exact List.mem_cons_self))), h1⟩
noncomputable def z_ckN (c : Nat) (M : zMi) (cs : List zI) (is : List zJ) (hs : List zHd) : Bool := decide (z_nxOf is 0 = 0) && decide (M.2.2.2.2.2 = hs.map (fun x => (x.1, x.2.1, x.2.2.1, x.2.2.2.1))) && hs.all (z_ckH M is) && z_ckLg c M is (zchj 40 is) hs 0 cs is
noncomputable def z_ckF (c : Nat) (M : zMi) (cs : List zI) (ws : List (List Nat)) (hs : List zHd) : Bool := (fun is => Nat.beq is.length ws.length && z_ckN c M cs is hs) (zfq M.2.2.1 0 M.2.2.1.data.toList ws)
theorem z_ckF_ok {c : Nat} {M : zMi} {code : ByteArray} {cs : List zI} {ws : List (List Nat)} {hs : List zHd} (hn : M.1 = zfcn c) (hy : M.2.1.cls = M.1) (hp : plainFor M.2.1 = true) (hc : M.2.2.1 = code) (h : z_ckF c M cs ws hs = true) : z_ckM M cs (z_dec code 0 ws) hs = true := by
  subst hc
  unfold z_ckF at h
  simp only [Bool.and_eq_true] at h
  obtain ⟨h1, h⟩ := h
  rw [zfq_dec List.drop_zero (Nat.eq_of_beq_eq_true h1)]
  unfold z_ckN at h
  unfold z_ckM
  simp only [Bool.and_eq_true] at h ⊢
  obtain ⟨⟨⟨h2, h3⟩, h4⟩, h5⟩ := h
  exact ⟨⟨⟨⟨⟨decide_eq_true hy, hp⟩, h2⟩, h3⟩, h4⟩, z_ckLg_ok hn (zfq_mem List.drop_zero) 0 cs _ [] (by rw [List.append_nil]; rfl) h5⟩
/-- a piece of a row -/
noncomputable def z_ckP (c : Nat) (M : zMi) (cs : List zI) (ws : List (List Nat)) (hs : List zHd) (a n : Nat) : Bool := (fun is => Nat.beq is.length ws.length && z_ckLg c M is (zchj 40 is) hs a ((cs.drop a).take n) ((is.drop a).take n)) (zfq M.2.2.1 0 M.2.2.1.data.toList ws)
theorem z_ckP_ok {c : Nat} {M : zMi} {code : ByteArray} {cs : List zI} {ws : List (List Nat)} {hs : List zHd} {a n : Nat} (hn : M.1 = zfcn c) (hc : M.2.2.1 = code) (h : z_ckP c M cs ws hs a n = true) : z_ckL M (z_dec code 0 ws) hs a ((cs.drop a).take n) (((z_dec code 0 ws).drop a).take n) = true := by
  subst hc
  unfold z_ckP at h
  simp only [Bool.and_eq_true] at h
  obtain ⟨h1, h⟩ := h
  rw [zfq_dec List.drop_zero (Nat.eq_of_beq_eq_true h1)]
  exact z_ckLg_ok hn (zfq_mem List.drop_zero) a _ _ _ (List.take_append_drop n _).symm h
noncomputable def z_ckE (c : Nat) (M : zMi) (cs : List zI) (ws : List (List Nat)) (hs : List zHd) (a : Nat) : Bool := (fun is => Nat.beq is.length ws.length && z_ckLg c M is (zchj 40 is) hs a (cs.drop a) (is.drop a)) (zfq M.2.2.1 0 M.2.2.1.data.toList ws)
theorem z_ckE_ok {c : Nat} {M : zMi} {code : ByteArray} {cs : List zI} {ws : List (List Nat)} {hs : List zHd} {a : Nat} (hn : M.1 = zfcn c) (hc : M.2.2.1 = code) (h : z_ckE c M cs ws hs a = true) : z_ckL M (z_dec code 0 ws) hs a (cs.drop a) ((z_dec code 0 ws).drop a) = true := by
  subst hc
  unfold z_ckE at h
  simp only [Bool.and_eq_true] at h
  obtain ⟨h1, h⟩ := h
  rw [zfq_dec List.drop_zero (Nat.eq_of_beq_eq_true h1)]
  exact z_ckLg_ok hn (zfq_mem List.drop_zero) a _ _ [] (by rw [List.append_nil]) h
end
section
/-! the tables are right, by the kernel, method by method -/
noncomputable def z_ck4 : List zMi → List (List zI) → List (List zJ) → List (List zHd) → Prop
  | [], [], [], [] => True
  | m :: ms, c :: cs, i :: is, h :: hs => z_ckM m c i h = true ∧ z_ck4 ms cs is hs
  | _, _, _, _ => False
theorem z_ck4_app : ∀ {a a' : List zMi} {b b' : List (List zI)} {c c' : List (List zJ)} {d d' : List (List zHd)}, z_ck4 a b c d → z_ck4 a' b' c' d' → z_ck4 (a ++ a') (b ++ b') (c ++ c') (d ++ d')
  | [], _, [], _, [], _, [], _, _, h2 => h2
  | _ :: _, _, _ :: _, _, _ :: _, _, _ :: _, _, h1, h2 => ⟨h1.1, z_ck4_app h1.2 h2⟩
theorem z_ck4_at : ∀ {a : List zMi} {b : List (List zI)} {c : List (List zJ)} {d : List (List zHd)}, z_ck4 a b c d → ∀ (j : Nat) (M : zMi) (cs : List zI) (is : List zJ) (hs : List zHd), a[j]? = some M → b[j]? = some cs → c[j]? = some is → d[j]? = some hs → z_ckM M cs is hs = true
  | [], [], [], [], _, j, M, cs, is, hs, h1, _, _, _ => by simp at h1
  | _ :: _, _ :: _, _ :: _, _ :: _, h, 0, M, cs, is, hs, h1, h2, h3, h4 => by
    simp only [List.getElem?_cons_zero, Option.some.injEq] at h1 h2 h3 h4
    subst h1; subst h2; subst h3; subst h4
    exact h.1
  | _ :: _, _ :: _, _ :: _, _ :: _, h, j + 1, M, cs, is, hs, h1, h2, h3, h4 => by
    simp only [List.getElem?_cons_succ] at h1 h2 h3 h4
    exact z_ck4_at h.2 j M cs is hs h1 h2 h3 h4
theorem z_ck4_len : ∀ {a : List zMi} {b : List (List zI)} {c : List (List zJ)} {d : List (List zHd)}, z_ck4 a b c d → b.length = a.length ∧ c.length = a.length ∧ d.length = a.length
  | [], [], [], [], _ => ⟨rfl, rfl, rfl⟩
  | _ :: _, _ :: _, _ :: _, _ :: _, h => by
    obtain ⟨h1, h2, h3⟩ := z_ck4_len h.2
    exact ⟨by simp [h1], by simp [h2], by simp [h3]⟩
theorem zt_0 : z_ckM z_m0 z_c0 z_i0 z_h0 = true := z_ckF_ok (c := 0) rfl rfl (plainFor_of_name zpn_0) rfl (by decide +kernel)
theorem zt_1 : z_ckM z_m1 z_c1 z_i1 z_h1 = true := z_ckF_ok (c := 0) rfl rfl (plainFor_of_name zpn_0) rfl (by decide +kernel)
theorem zt_2 : z_ckM z_m2 z_c2 z_i2 z_h2 = true := z_ckF_ok (c := 0) rfl rfl (plainFor_of_name zpn_0) rfl (by decide +kernel)
theorem zt_3 : z_ckM z_m3 z_c3 z_i3 z_h3 = true := z_ckF_ok (c := 0) rfl rfl (plainFor_of_name zpn_0) rfl (by decide +kernel)
theorem zt_4 : z_ckM z_m4 z_c4 z_i4 z_h4 = true := z_ckF_ok (c := 0) rfl rfl (plainFor_of_name zpn_0) rfl (by decide +kernel)
theorem zt_5 : z_ckM z_m5 z_c5 z_i5 z_h5 = true := z_ckF_ok (c := 0) rfl rfl (plainFor_of_name zpn_0) rfl (by decide +kernel)
theorem zt_6 : z_ckM z_m6 z_c6 z_i6 z_h6 = true := z_ckF_ok (c := 0) rfl rfl (plainFor_of_name zpn_0) rfl (by decide +kernel)
theorem zt_7 : z_ckM z_m7 z_c7 z_i7 z_h7 = true := z_ckF_ok (c := 1) rfl rfl (plainFor_of_name zpn_1) rfl (by decide +kernel)
theorem zt_8 : z_ckM z_m8 z_c8 z_i8 z_h8 = true := z_ckF_ok (c := 1) rfl rfl (plainFor_of_name zpn_1) rfl (by decide +kernel)
theorem zt_9 : z_ckM z_m9 z_c9 z_i9 z_h9 = true := z_ckF_ok (c := 1) rfl rfl (plainFor_of_name zpn_1) rfl (by decide +kernel)
theorem zt_10 : z_ckM z_m10 z_c10 z_i10 z_h10 = true := z_ckF_ok (c := 1) rfl rfl (plainFor_of_name zpn_1) rfl (by decide +kernel)
theorem zt_11 : z_ckM z_m11 z_c11 z_i11 z_h11 = true := z_ckF_ok (c := 1) rfl rfl (plainFor_of_name zpn_1) rfl (by decide +kernel)
theorem zt_12 : z_ckM z_m12 z_c12 z_i12 z_h12 = true := z_ckF_ok (c := 1) rfl rfl (plainFor_of_name zpn_1) rfl (by decide +kernel)
theorem zt_13 : z_ckM z_m13 z_c13 z_i13 z_h13 = true := z_ckF_ok (c := 1) rfl rfl (plainFor_of_name zpn_1) rfl (by decide +kernel)
theorem zt_14 : z_ckM z_m14 z_c14 z_i14 z_h14 = true := z_ckF_ok (c := 1) rfl rfl (plainFor_of_name zpn_1) rfl (by decide +kernel)
theorem zt_15 : z_ckM z_m15 z_c15 z_i15 z_h15 = true := z_ckF_ok (c := 1) rfl rfl (plainFor_of_name zpn_1) rfl (by decide +kernel)
theorem zt_16 : z_ckM z_m16 z_c16 z_i16 z_h16 = true := z_ckF_ok (c := 1) rfl rfl (plainFor_of_name zpn_1) rfl (by decide +kernel)
theorem zt_17 : z_ckM z_m17 z_c17 z_i17 z_h17 = true := z_ckF_ok (c := 1) rfl rfl (plainFor_of_name zpn_1) rfl (by decide +kernel)
theorem zt_18 : z_ckM z_m18 z_c18 z_i18 z_h18 = true := z_ckF_ok (c := 1) rfl rfl (plainFor_of_name zpn_1) rfl (by decide +kernel)
theorem zt_19 : z_ckM z_m19 z_c19 z_i19 z_h19 = true := z_ckF_ok (c := 1) rfl rfl (plainFor_of_name zpn_1) rfl (by decide +kernel)
theorem zt_20 : z_ckM z_m20 z_c20 z_i20 z_h20 = true := z_ckF_ok (c := 1) rfl rfl (plainFor_of_name zpn_1) rfl (by decide +kernel)
theorem zt_21 : z_ckM z_m21 z_c21 z_i21 z_h21 = true := z_ckF_ok (c := 1) rfl rfl (plainFor_of_name zpn_1) rfl (by decide +kernel)
theorem zt_22 : z_ckM z_m22 z_c22 z_i22 z_h22 = true := z_ckF_ok (c := 2) rfl rfl (plainFor_of_name zpn_2) rfl (by decide +kernel)
theorem zt_23 : z_ckM z_m23 z_c23 z_i23 z_h23 = true := z_ckF_ok (c := 2) rfl rfl (plainFor_of_name zpn_2) rfl (by decide +kernel)
theorem zt_24 : z_ckM z_m24 z_c24 z_i24 z_h24 = true := z_ckF_ok (c := 2) rfl rfl (plainFor_of_name zpn_2) rfl (by decide +kernel)
theorem zt_25 : z_ckM z_m25 z_c25 z_i25 z_h25 = true := z_ckF_ok (c := 2) rfl rfl (plainFor_of_name zpn_2) rfl (by decide +kernel)
theorem zt_26 : z_ckM z_m26 z_c26 z_i26 z_h26 = true := z_ckF_ok (c := 2) rfl rfl (plainFor_of_name zpn_2) rfl (by decide +kernel)
theorem zt_27 : z_ckM z_m27 z_c27 z_i27 z_h27 = true := z_ckF_ok (c := 2) rfl rfl (plainFor_of_name zpn_2) rfl (by decide +kernel)
theorem zt_28 : z_ckM z_m28 z_c28 z_i28 z_h28 = true := z_ckF_ok (c := 2) rfl rfl (plainFor_of_name zpn_2) rfl (by decide +kernel)
theorem zt_29 : z_ckM z_m29 z_c29 z_i29 z_h29 = true := z_ckF_ok (c := 2) rfl rfl (plainFor_of_name zpn_2) rfl (by decide +kernel)
theorem zt_30 : z_ckM z_m30 z_c30 z_i30 z_h30 = true := z_ckF_ok (c := 2) rfl rfl (plainFor_of_name zpn_2) rfl (by decide +kernel)
theorem zt_31 : z_ckM z_m31 z_c31 z_i31 z_h31 = true := z_ckF_ok (c := 2) rfl rfl (plainFor_of_name zpn_2) rfl (by decide +kernel)
theorem zt_32 : z_ckM z_m32 z_c32 z_i32 z_h32 = true := z_ckF_ok (c := 2) rfl rfl (plainFor_of_name zpn_2) rfl (by decide +kernel)
theorem zt_33 : z_ckM z_m33 z_c33 z_i33 z_h33 = true := z_ckF_ok (c := 2) rfl rfl (plainFor_of_name zpn_2) rfl (by decide +kernel)
theorem zt_34 : z_ckM z_m34 z_c34 z_i34 z_h34 = true := z_ckF_ok (c := 2) rfl rfl (plainFor_of_name zpn_2) rfl (by decide +kernel)
theorem zt_35 : z_ckM z_m35 z_c35 z_i35 z_h35 = true := z_ckF_ok (c := 2) rfl rfl (plainFor_of_name zpn_2) rfl (by decide +kernel)
theorem zt_36 : z_ckM z_m36 z_c36 z_i36 z_h36 = true := z_ckF_ok (c := 2) rfl rfl (plainFor_of_name zpn_2) rfl (by decide +kernel)
theorem zt_37 : z_ckM z_m37 z_c37 z_i37 z_h37 = true := z_ckF_ok (c := 2) rfl rfl (plainFor_of_name zpn_2) rfl (by decide +kernel)
theorem zt_38 : z_ckM z_m38 z_c38 z_i38 z_h38 = true := z_ckF_ok (c := 2) rfl rfl (plainFor_of_name zpn_2) rfl (by decide +kernel)
theorem zt_39 : z_ckM z_m39 z_c39 z_i39 z_h39 = true := z_ckF_ok (c := 2) rfl rfl (plainFor_of_name zpn_2) rfl (by decide +kernel)
theorem zt_40 : z_ckM z_m40 z_c40 z_i40 z_h40 = true := z_ckF_ok (c := 2) rfl rfl (plainFor_of_name zpn_2) rfl (by decide +kernel)
theorem zt_41 : z_ckM z_m41 z_c41 z_i41 z_h41 = true := z_ckF_ok (c := 3) rfl rfl (plainFor_of_name zpn_3) rfl (by decide +kernel)
theorem zt_42 : z_ckM z_m42 z_c42 z_i42 z_h42 = true := z_ckF_ok (c := 3) rfl rfl (plainFor_of_name zpn_3) rfl (by decide +kernel)
theorem zt_g0 : z_ck4 z_ms_0 z_cs_0 z_is_0 z_hs_0 := ⟨zt_0, zt_1, zt_2, zt_3, zt_4, zt_5, zt_6, zt_7, zt_8, zt_9, zt_10, zt_11, zt_12, zt_13, zt_14, zt_15, zt_16, zt_17, zt_18, zt_19, zt_20, zt_21, zt_22, zt_23, zt_24, zt_25, zt_26, zt_27, zt_28, zt_29, zt_30, zt_31, zt_32, zt_33, zt_34, zt_35, zt_36, zt_37, zt_38, zt_39, zt_40, zt_41, zt_42, trivial⟩
end
section
/-! the tables are right: the next methods -/
theorem zt_43 : z_ckM z_m43 z_c43 z_i43 z_h43 = true := z_ckF_ok (c := 3) rfl rfl (plainFor_of_name zpn_3) rfl (by decide +kernel)
theorem zt_44 : z_ckM z_m44 z_c44 z_i44 z_h44 = true := z_ckF_ok (c := 3) rfl rfl (plainFor_of_name zpn_3) rfl (by decide +kernel)
theorem zt_45 : z_ckM z_m45 z_c45 z_i45 z_h45 = true := z_ckF_ok (c := 3) rfl rfl (plainFor_of_name zpn_3) rfl (by decide +kernel)
theorem zt_46 : z_ckM z_m46 z_c46 z_i46 z_h46 = true := z_ckF_ok (c := 4) rfl rfl (plainFor_of_name zpn_4) rfl (by decide +kernel)
theorem zt_47 : z_ckM z_m47 z_c47 z_i47 z_h47 = true := z_ckF_ok (c := 4) rfl rfl (plainFor_of_name zpn_4) rfl (by decide +kernel)
theorem zt_48 : z_ckM z_m48 z_c48 z_i48 z_h48 = true := z_ckF_ok (c := 4) rfl rfl (plainFor_of_name zpn_4) rfl (by decide +kernel)
theorem zt_49 : z_ckM z_m49 z_c49 z_i49 z_h49 = true := z_ckF_ok (c := 4) rfl rfl (plainFor_of_name zpn_4) rfl (by decide +kernel)
theorem zt_50 : z_ckM z_m50 z_c50 z_i50 z_h50 = true := z_ckF_ok (c := 4) rfl rfl (plainFor_of_name zpn_4) rfl (by decide +kernel)
theorem zt_51 : z_ckM z_m51 z_c51 z_i51 z_h51 = true := z_ckF_ok (c := 4) rfl rfl (plainFor_of_name zpn_4) rfl (by decide +kernel)
theorem zt_52 : z_ckM z_m52 z_c52 z_i52 z_h52 = true := z_ckF_ok (c := 4) rfl rfl (plainFor_of_name zpn_4) rfl (by decide +kernel)
theorem zt_53 : z_ckM z_m53 z_c53 z_i53 z_h53 = true := z_ckF_ok (c := 4) rfl rfl (plainFor_of_name zpn_4) rfl (by decide +kernel)
theorem zt_54 : z_ckM z_m54 z_c54 z_i54 z_h54 = true := z_ckF_ok (c := 4) rfl rfl (plainFor_of_name zpn_4) rfl (by decide +kernel)
theorem zt_55 : z_ckM z_m55 z_c55 z_i55 z_h55 = true := z_ckF_ok (c := 5) rfl rfl (plainFor_of_name zpn_5) rfl (by decide +kernel)
theorem zt_56 : z_ckM z_m56 z_c56 z_i56 z_h56 = true := z_ckF_ok (c := 5) rfl rfl (plainFor_of_name zpn_5) rfl (by decide +kernel)
theorem zt_57 : z_ckM z_m57 z_c57 z_i57 z_h57 = true := z_ckF_ok (c := 5) rfl rfl (plainFor_of_name zpn_5) rfl (by decide +kernel)
theorem zt_58 : z_ckM z_m58 z_c58 z_i58 z_h58 = true := z_ckF_ok (c := 5) rfl rfl (plainFor_of_name zpn_5) rfl (by decide +kernel)
theorem zt_59 : z_ckM z_m59 z_c59 z_i59 z_h59 = true := z_ckF_ok (c := 5) rfl rfl (plainFor_of_name zpn_5) rfl (by decide +kernel)
theorem zt_60 : z_ckM z_m60 z_c60 z_i60 z_h60 = true := z_ckF_ok (c := 5) rfl rfl (plainFor_of_name zpn_5) rfl (by decide +kernel)
theorem zt_61 : z_ckM z_m61 z_c61 z_i61 z_h61 = true := z_ckF_ok (c := 6) rfl rfl (plainFor_of_name zpn_6) rfl (by decide +kernel)
theorem zt_62 : z_ckM z_m62 z_c62 z_i62 z_h62 = true := z_ckF_ok (c := 6) rfl rfl (plainFor_of_name zpn_6) rfl (by decide +kernel)
theorem zt_63 : z_ckM z_m63 z_c63 z_i63 z_h63 = true := z_ckF_ok (c := 6) rfl rfl (plainFor_of_name zpn_6) rfl (by decide +kernel)
theorem zt_64 : z_ckM z_m64 z_c64 z_i64 z_h64 = true := z_ckF_ok (c := 6) rfl rfl (plainFor_of_name zpn_6) rfl (by decide +kernel)
theorem zt_65 : z_ckM z_m65 z_c65 z_i65 z_h65 = true := z_ckF_ok (c := 7) rfl rfl (plainFor_of_name zpn_7) rfl (by decide +kernel)
theorem zt_66 : z_ckM z_m66 z_c66 z_i66 z_h66 = true := z_ckF_ok (c := 7) rfl rfl (plainFor_of_name zpn_7) rfl (by decide +kernel)
theorem zt_67 : z_ckM z_m67 z_c67 z_i67 z_h67 = true := z_ckF_ok (c := 7) rfl rfl (plainFor_of_name zpn_7) rfl (by decide +kernel)
theorem zt_68 : z_ckM z_m68 z_c68 z_i68 z_h68 = true := z_ckF_ok (c := 7) rfl rfl (plainFor_of_name zpn_7) rfl (by decide +kernel)
theorem zt_69 : z_ckM z_m69 z_c69 z_i69 z_h69 = true := z_ckF_ok (c := 7) rfl rfl (plainFor_of_name zpn_7) rfl (by decide +kernel)
theorem zt_70 : z_ckM z_m70 z_c70 z_i70 z_h70 = true := z_ckF_ok (c := 7) rfl rfl (plainFor_of_name zpn_7) rfl (by decide +kernel)
theorem zt_71 : z_ckM z_m71 z_c71 z_i71 z_h71 = true := z_ckF_ok (c := 7) rfl rfl (plainFor_of_name zpn_7) rfl (by decide +kernel)
theorem zt_72 : z_ckM z_m72 z_c72 z_i72 z_h72 = true := z_ckF_ok (c := 7) rfl rfl (plainFor_of_name zpn_7) rfl (by decide +kernel)
theorem zt_73 : z_ckM z_m73 z_c73 z_i73 z_h73 = true := z_ckF_ok (c := 7) rfl rfl (plainFor_of_name zpn_7) rfl (by decide +kernel)
theorem zt_74 : z_ckM z_m74 z_c74 z_i74 z_h74 = true := z_ckF_ok (c := 7) rfl rfl (plainFor_of_name zpn_7) rfl (by decide +kernel)
theorem zt_75 : z_ckM z_m75 z_c75 z_i75 z_h75 = true := z_ckF_ok (c := 7) rfl rfl (plainFor_of_name zpn_7) rfl (by decide +kernel)
theorem zt_76 : z_ckM z_m76 z_c76 z_i76 z_h76 = true := z_ckF_ok (c := 7) rfl rfl (plainFor_of_name zpn_7) rfl (by decide +kernel)
theorem zt_77 : z_ckM z_m77 z_c77 z_i77 z_h77 = true := z_ckF_ok (c := 7) rfl rfl (plainFor_of_name zpn_7) rfl (by decide +kernel)
theorem zt_78 : z_ckM z_m78 z_c78 z_i78 z_h78 = true := z_ckF_ok (c := 7) rfl rfl (plainFor_of_name zpn_7) rfl (by decide +kernel)
theorem zt_79 : z_ckM z_m79 z_c79 z_i79 z_h79 = true := z_ckF_ok (c := 7) rfl rfl (plainFor_of_name zpn_7) rfl (by decide +kernel)
theorem zt_80 : z_ckM z_m80 z_c80 z_i80 z_h80 = true := z_ckF_ok (c := 7) rfl rfl (plainFor_of_name zpn_7) rfl (by decide +kernel)
theorem zt_81 : z_ckM z_m81 z_c81 z_i81 z_h81 = true := z_ckF_ok (c := 7) rfl rfl (plainFor_of_name zpn_7) rfl (by decide +kernel)
theorem zt_82 : z_ckM z_m82 z_c82 z_i82 z_h82 = true := z_ckF_ok (c := 7) rfl rfl (plainFor_of_name zpn_7) rfl (by decide +kernel)
theorem zt_83 : z_ckM z_m83 z_c83 z_i83 z_h83 = true := z_ckF_ok (c := 7) rfl rfl (plainFor_of_name zpn_7) rfl (by decide +kernel)
theorem zt_84 : z_ckM z_m84 z_c84 z_i84 z_h84 = true := z_ckF_ok (c := 8) rfl rfl (plainFor_of_name zpn_8) rfl (by decide +kernel)
theorem zt_85 : z_ckM z_m85 z_c85 z_i85 z_h85 = true := z_ckF_ok (c := 8) rfl rfl (plainFor_of_name zpn_8) rfl (by decide +kernel)
theorem zt_g1 : z_ck4 z_ms_1 z_cs_1 z_is_1 z_hs_1 := ⟨zt_43, zt_44, zt_45, zt_46, zt_47, zt_48, zt_49, zt_50, zt_51, zt_52, zt_53, zt_54, zt_55, zt_56, zt_57, zt_58, zt_59, zt_60, zt_61, zt_62, zt_63, zt_64, zt_65, zt_66, zt_67, zt_68, zt_69, zt_70, zt_71, zt_72, zt_73, zt_74, zt_75, zt_76, zt_77, zt_78, zt_79, zt_80, zt_81, zt_82, zt_83, zt_84, zt_85, trivial⟩
end
section
/-! the tables are right: the next methods -/
theorem zt_86 : z_ckM z_m86 z_c86 z_i86 z_h86 = true := z_ckF_ok (c := 8) rfl rfl (plainFor_of_name zpn_8) rfl (by decide +kernel)
theorem zt_87 : z_ckM z_m87 z_c87 z_i87 z_h87 = true := z_ckF_ok (c := 8) rfl rfl (plainFor_of_name zpn_8) rfl (by decide +kernel)
theorem zt_88 : z_ckM z_m88 z_c88 z_i88 z_h88 = true := z_ckF_ok (c := 8) rfl rfl (plainFor_of_name zpn_8) rfl (by decide +kernel)
theorem zt_89 : z_ckM z_m89 z_c89 z_i89 z_h89 = true := z_ckF_ok (c := 8) rfl rfl (plainFor_of_name zpn_8) rfl (by decide +kernel)
theorem zt_90 : z_ckM z_m90 z_c90 z_i90 z_h90 = true := z_ckF_ok (c := 8) rfl rfl (plainFor_of_name zpn_8) rfl (by decide +kernel)
theorem zt_91 : z_ckM z_m91 z_c91 z_i91 z_h91 = true := z_ckF_ok (c := 8) rfl rfl (plainFor_of_name zpn_8) rfl (by decide +kernel)
theorem zt_92 : z_ckM z_m92 z_c92 z_i92 z_h92 = true := z_ckF_ok (c := 8) rfl rfl (plainFor_of_name zpn_8) rfl (by decide +kernel)
theorem zt_93 : z_ckM z_m93 z_c93 z_i93 z_h93 = true := z_ckF_ok (c := 8) rfl rfl (plainFor_of_name zpn_8) rfl (by decide +kernel)
theorem zt_94 : z_ckM z_m94 z_c94 z_i94 z_h94 = true := z_ckF_ok (c := 8) rfl rfl (plainFor_of_name zpn_8) rfl (by decide +kernel)
theorem zt_95 : z_ckM z_m95 z_c95 z_i95 z_h95 = true := z_ckF_ok (c := 8) rfl rfl (plainFor_of_name zpn_8) rfl (by decide +kernel)
theorem zt_96 : z_ckM z_m96 z_c96 z_i96 z_h96 = true := z_ckF_ok (c := 8) rfl rfl (plainFor_of_name zpn_8) rfl (by decide +kernel)
theorem zt_97 : z_ckM z_m97 z_c97 z_i97 z_h97 = true := z_ckF_ok (c := 8) rfl rfl (plainFor_of_name zpn_8) rfl (by decide +kernel)
theorem zt_98 : z_ckM z_m98 z_c98 z_i98 z_h98 = true := z_ckF_ok (c := 8) rfl rfl (plainFor_of_name zpn_8) rfl (by decide +kernel)
theorem zt_99 : z_ckM z_m99 z_c99 z_i99 z_h99 = true := z_ckF_ok (c := 8) rfl rfl (plainFor_of_name zpn_8) rfl (by decide +kernel)
theorem zt_100 : z_ckM z_m100 z_c100 z_i100 z_h100 = true := z_ckF_ok (c := 9) rfl rfl (plainFor_of_name zpn_9) rfl (by decide +kernel)
theorem zt_101 : z_ckM z_m101 z_c101 z_i101 z_h101 = true := z_ckF_ok (c := 9) rfl rfl (plainFor_of_name zpn_9) rfl (by decide +kernel)
theorem zt_102 : z_ckM z_m102 z_c102 z_i102 z_h102 = true := z_ckF_ok (c := 9) rfl rfl (plainFor_of_name zpn_9) rfl (by decide +kernel)
theorem zt_103 : z_ckM z_m103 z_c103 z_i103 z_h103 = true := z_ckF_ok (c := 9) rfl rfl (plainFor_of_name zpn_9) rfl (by decide +kernel)
theorem zt_104 : z_ckM z_m104 z_c104 z_i104 z_h104 = true := z_ckF_ok (c := 9) rfl rfl (plainFor_of_name zpn_9) rfl (by decide +kernel)
theorem zt_105 : z_ckM z_m105 z_c105 z_i105 z_h105 = true := z_ckF_ok (c := 9) rfl rfl (plainFor_of_name zpn_9) rfl (by decide +kernel)
theorem zt_106 : z_ckM z_m106 z_c106 z_i106 z_h106 = true := z_ckF_ok (c := 9) rfl rfl (plainFor_of_name zpn_9) rfl (by decide +kernel)
theorem zt_107 : z_ckM z_m107 z_c107 z_i107 z_h107 = true := z_ckF_ok (c := 9) rfl rfl (plainFor_of_name zpn_9) rfl (by decide +kernel)
theorem zt_108 : z_ckM z_m108 z_c108 z_i108 z_h108 = true := z_ckF_ok (c := 9) rfl rfl (plainFor_of_name zpn_9) rfl (by decide +kernel)
theorem zt_109 : z_ckM z_m109 z_c109 z_i109 z_h109 = true := z_ckF_ok (c := 9) rfl rfl (plainFor_of_name zpn_9) rfl (by decide +kernel)
theorem zt_110 : z_ckM z_m110 z_c110 z_i110 z_h110 = true := z_ckF_ok (c := 10) rfl rfl (plainFor_of_name zpn_10) rfl (by decide +kernel)
theorem zt_111 : z_ckM z_m111 z_c111 z_i111 z_h111 = true := z_ckF_ok (c := 10) rfl rfl (plainFor_of_name zpn_10) rfl (by decide +kernel)
theorem zt_112 : z_ckM z_m112 z_c112 z_i112 z_h112 = true := z_ckF_ok (c := 10) rfl rfl (plainFor_of_name zpn_10) rfl (by decide +kernel)
theorem zt_113 : z_ckM z_m113 z_c113 z_i113 z_h113 = true := z_ckF_ok (c := 10) rfl rfl (plainFor_of_name zpn_10) rfl (by decide +kernel)
theorem zt_114 : z_ckM z_m114 z_c114 z_i114 z_h114 = true := z_ckF_ok (c := 10) rfl rfl (plainFor_of_name zpn_10) rfl (by decide +kernel)
theorem zt_115 : z_ckM z_m115 z_c115 z_i115 z_h115 = true := z_ckF_ok (c := 10) rfl rfl (plainFor_of_name zpn_10) rfl (by decide +kernel)
theorem zt_116 : z_ckM z_m116 z_c116 z_i116 z_h116 = true := z_ckF_ok (c := 10) rfl rfl (plainFor_of_name zpn_10) rfl (by decide +kernel)
theorem zt_117 : z_ckM z_m117 z_c117 z_i117 z_h117 = true := z_ckF_ok (c := 11) rfl rfl (plainFor_of_name zpn_11) rfl (by decide +kernel)
theorem zt_118 : z_ckM z_m118 z_c118 z_i118 z_h118 = true := z_ckF_ok (c := 11) rfl rfl (plainFor_of_name zpn_11) rfl (by decide +kernel)
theorem zt_119 : z_ckM z_m119 z_c119 z_i119 z_h119 = true := z_ckF_ok (c := 11) rfl rfl (plainFor_of_name zpn_11) rfl (by decide +kernel)
theorem zt_120 : z_ckM z_m120 z_c120 z_i120 z_h120 = true := z_ckF_ok (c := 11) rfl rfl (plainFor_of_name zpn_11) rfl (by decide +kernel)
theorem zt_121 : z_ckM z_m121 z_c121 z_i121 z_h121 = true := z_ckF_ok (c := 11) rfl rfl (plainFor_of_name zpn_11) rfl (by decide +kernel)
theorem zt_122 : z_ckM z_m122 z_c122 z_i122 z_h122 = true := z_ckF_ok (c := 11) rfl rfl (plainFor_of_name zpn_11) rfl (by decide +kernel)
theorem zt_123 : z_ckM z_m123 z_c123 z_i123 z_h123 = true := z_ckF_ok (c := 11) rfl rfl (plainFor_of_name zpn_11) rfl (by decide +kernel)
theorem zt_124 : z_ckM z_m124 z_c124 z_i124 z_h124 = true := z_ckF_ok (c := 11) rfl rfl (plainFor_of_name zpn_11) rfl (by decide +kernel)
theorem zt_125 : z_ckM z_m125 z_c125 z_i125 z_h125 = true := z_ckF_ok (c := 11) rfl rfl (plainFor_of_name zpn_11) rfl (by decide +kernel)
theorem zt_126 : z_ckM z_m126 z_c126 z_i126 z_h126 = true := z_ckF_ok (c := 11) rfl rfl (plainFor_of_name zpn_11) rfl (by decide +kernel)
theorem zt_127 : z_ckM z_m127 z_c127 z_i127 z_h127 = true := z_ckF_ok (c := 11) rfl rfl (plainFor_of_name zpn_11) rfl (by decide +kernel)
theorem zt_128 : z_ckM z_m128 z_c128 z_i128 z_h128 = true := z_ckF_ok (c := 11) rfl rfl (plainFor_of_name zpn_11) rfl (by decide +kernel)
theorem zt_g2 : z_ck4 z_ms_2 z_cs_2 z_is_2 z_hs_2 := ⟨zt_86, zt_87, zt_88, zt_89, zt_90, zt_91, zt_92, zt_93, zt_94, zt_95, zt_96, zt_97, zt_98, zt_99, zt_100, zt_101, zt_102, zt_103, zt_104, zt_105, zt_106, zt_107, zt_108, zt_109, zt_110, zt_111, zt_112, zt_113, zt_114, zt_115, zt_116, zt_117, zt_118, zt_119, zt_120, zt_121, zt_122, zt_123, zt_124, zt_125, zt_126, zt_127, zt_128, trivial⟩
end
section
/-! the tables are right: the next methods -/
theorem zt_129 : z_ckM z_m129 z_c129 z_i129 z_h129 = true := z_ckF_ok (c := 11) rfl rfl (plainFor_of_name zpn_11) rfl (by decide +kernel)
theorem zt_130 : z_ckM z_m130 z_c130 z_i130 z_h130 = true := z_ckF_ok (c := 11) rfl rfl (plainFor_of_name zpn_11) rfl (by decide +kernel)
theorem zt_131 : z_ckM z_m131 z_c131 z_i131 z_h131 = true := z_ckF_ok (c := 11) rfl rfl (plainFor_of_name zpn_11) rfl (by decide +kernel)
theorem zt_132 : z_ckM z_m132 z_c132 z_i132 z_h132 = true := z_ckF_ok (c := 11) rfl rfl (plainFor_of_name zpn_11) rfl (by decide +kernel)
theorem zt_133 : z_ckM z_m133 z_c133 z_i133 z_h133 = true := z_ckF_ok (c := 11) rfl rfl (plainFor_of_name zpn_11) rfl (by decide +kernel)
theorem zt_134 : z_ckM z_m134 z_c134 z_i134 z_h134 = true := z_ckF_ok (c := 11) rfl rfl (plainFor_of_name zpn_11) rfl (by decide +kernel)
theorem zt_135 : z_ckM z_m135 z_c135 z_i135 z_h135 = true := z_ckF_ok (c := 11) rfl rfl (plainFor_of_name zpn_11) rfl (by decide +kernel)
theorem zt_136 : z_ckM z_m136 z_c136 z_i136 z_h136 = true := z_ckF_ok (c := 11) rfl rfl (plainFor_of_name zpn_11) rfl (by decide +kernel)
theorem zt_137 : z_ckM z_m137 z_c137 z_i137 z_h137 = true := z_ckF_ok (c := 11) rfl rfl (plainFor_of_name zpn_11) rfl (by decide +kernel)
theorem zt_138 : z_ckM z_m138 z_c138 z_i138 z_h138 = true := z_ckF_ok (c := 11) rfl rfl (plainFor_of_name zpn_11) rfl (by decide +kernel)
theorem zt_139 : z_ckM z_m139 z_c139 z_i139 z_h139 = true := z_ckF_ok (c := 11) rfl rfl (plainFor_of_name zpn_11) rfl (by decide +kernel)
theorem zt_140 : z_ckM z_m140 z_c140 z_i140 z_h140 = true := z_ckF_ok (c := 11) rfl rfl (plainFor_of_name zpn_11) rfl (by decide +kernel)
theorem zt_141 : z_ckM z_m141 z_c141 z_i141 z_h141 = true := z_ckF_ok (c := 11) rfl rfl (plainFor_of_name zpn_11) rfl (by decide +kernel)
theorem zt_142 : z_ckM z_m142 z_c142 z_i142 z_h142 = true := z_ckF_ok (c := 11) rfl rfl (plainFor_of_name zpn_11) rfl (by decide +kernel)
theorem zt_143 : z_ckM z_m143 z_c143 z_i143 z_h143 = true := z_ckF_ok (c := 11) rfl rfl (plainFor_of_name zpn_11) rfl (by decide +kernel)
theorem zt_144 : z_ckM z_m144 z_c144 z_i144 z_h144 = true := z_ckF_ok (c := 11) rfl rfl (plainFor_of_name zpn_11) rfl (by decide +kernel)
theorem zt_145 : z_ckM z_m145 z_c145 z_i145 z_h145 = true := z_ckF_ok (c := 11) rfl rfl (plainFor_of_name zpn_11) rfl (by decide +kernel)
theorem zt_146 : z_ckM z_m146 z_c146 z_i146 z_h146 = true := z_ckF_ok (c := 11) rfl rfl (plainFor_of_name zpn_11) rfl (by decide +kernel)
theorem zt_147 : z_ckM z_m147 z_c147 z_i147 z_h147 = true := z_ckF_ok (c := 11) rfl rfl (plainFor_of_name zpn_11) rfl (by decide +kernel)
theorem zt_148 : z_ckM z_m148 z_c148 z_i148 z_h148 = true := z_ckF_ok (c := 11) rfl rfl (plainFor_of_name zpn_11) rfl (by decide +kernel)
theorem zt_149 : z_ckM z_m149 z_c149 z_i149 z_h149 = true := z_ckF_ok (c := 11) rfl rfl (plainFor_of_name zpn_11) rfl (by decide +kernel)
theorem zt_150 : z_ckM z_m150 z_c150 z_i150 z_h150 = true := z_ckF_ok (c := 11) rfl rfl (plainFor_of_name zpn_11) rfl (by decide +kernel)
theorem zt_151 : z_ckM z_m151 z_c151 z_i151 z_h151 = true := z_ckF_ok (c := 11) rfl rfl (plainFor_of_name zpn_11) rfl (by decide +kernel)
theorem zt_152 : z_ckM z_m152 z_c152 z_i152 z_h152 = true := z_ckF_ok (c := 11) rfl rfl (plainFor_of_name zpn_11) rfl (by decide +kernel)
theorem zt_153 : z_ckM z_m153 z_c153 z_i153 z_h153 = true := z_ckF_ok (c := 11) rfl rfl (plainFor_of_name zpn_11) rfl (by decide +kernel)
theorem zt_154 : z_ckM z_m154 z_c154 z_i154 z_h154 = true := z_ckF_ok (c := 11) rfl rfl (plainFor_of_name zpn_11) rfl (by decide +kernel)
theorem zt_155 : z_ckM z_m155 z_c155 z_i155 z_h155 = true := z_ckF_ok (c := 11) rfl rfl (plainFor_of_name zpn_11) rfl (by decide +kernel)
theorem zt_156 : z_ckM z_m156 z_c156 z_i156 z_h156 = true := z_ckF_ok (c := 11) rfl rfl (plainFor_of_name zpn_11) rfl (by decide +kernel)
theorem zt_157 : z_ckM z_m157 z_c157 z_i157 z_h157 = true := z_ckF_ok (c := 11) rfl rfl (plainFor_of_name zpn_11) rfl (by decide +kernel)
theorem zt_158 : z_ckM z_m158 z_c158 z_i158 z_h158 = true := z_ckF_ok (c := 11) rfl rfl (plainFor_of_name zpn_11) rfl (by decide +kernel)
theorem zt_159 : z_ckM z_m159 z_c159 z_i159 z_h159 = true := z_ckF_ok (c := 11) rfl rfl (plainFor_of_name zpn_11) rfl (by decide +kernel)
theorem zt_160 : z_ckM z_m160 z_c160 z_i160 z_h160 = true := z_ckF_ok (c := 11) rfl rfl (plainFor_of_name zpn_11) rfl (by decide +kernel)
theorem zt_161 : z_ckM z_m161 z_c161 z_i161 z_h161 = true := z_ckF_ok (c := 11) rfl rfl (plainFor_of_name zpn_11) rfl (by decide +kernel)
theorem zt_162 : z_ckM z_m162 z_c162 z_i162 z_h162 = true := z_ckF_ok (c := 11) rfl rfl (plainFor_of_name zpn_11) rfl (by decide +kernel)
theorem zt_163 : z_ckM z_m163 z_c163 z_i163 z_h163 = true := z_ckF_ok (c := 11) rfl rfl (plainFor_of_name zpn_11) rfl (by decide +kernel)
theorem zt_164 : z_ckM z_m164 z_c164 z_i164 z_h164 = true := z_ckF_ok (c := 11) rfl rfl (plainFor_of_name zpn_11) rfl (by decide +kernel)
theorem zt_165 : z_ckM z_m165 z_c165 z_i165 z_h165 = true := z_ckF_ok (c := 11) rfl rfl (plainFor_of_name zpn_11) rfl (by decide +kernel)
theorem zt_166 : z_ckM z_m166 z_c166 z_i166 z_h166 = true := z_ckF_ok (c := 11) rfl rfl (plainFor_of_name zpn_11) rfl (by decide +kernel)
theorem zt_167 : z_ckM z_m167 z_c167 z_i167 z_h167 = true := z_ckF_ok (c := 11) rfl rfl (plainFor_of_name zpn_11) rfl (by decide +kernel)
theorem zt_168 : z_ckM z_m168 z_c168 z_i168 z_h168 = true := z_ckF_ok (c := 11) rfl rfl (plainFor_of_name zpn_11) rfl (by decide +kernel)
theorem zt_169 : z_ckM z_m169 z_c169 z_i169 z_h169 = true := z_ckF_ok (c := 11) rfl rfl (plainFor_of_name zpn_11) rfl (by decide +kernel)
theorem zt_170 : z_ckM z_m170 z_c170 z_i170 z_h170 = true := z_ckF_ok (c := 11) rfl rfl (plainFor_of_name zpn_11) rfl (by decide +kernel)
theorem zt_171 : z_ckM z_m171 z_c171 z_i171 z_h171 = true := z_ckF_ok (c := 11) rfl rfl (plainFor_of_name zpn_11) rfl (by decide +kernel)
theorem zt_g3 : z_ck4 z_ms_3 z_cs_3 z_is_3 z_hs_3 := ⟨zt_129, zt_130, zt_131, zt_132, zt_133, zt_134, zt_135, zt_136, zt_137, zt_138, zt_139, zt_140, zt_141, zt_142, zt_143, zt_144, zt_145, zt_146, zt_147, zt_148, zt_149, zt_150, zt_151, zt_152, zt_153, zt_154, zt_155, zt_156, zt_157, zt_158, zt_159, zt_160, zt_161, zt_162, zt_163, zt_164, zt_165, zt_166, zt_167, zt_168, zt_169, zt_170, zt_171, trivial⟩
end
section
/-! the tables are right: the next methods -/
theorem zt_172 : z_ckM z_m172 z_c172 z_i172 z_h172 = true := z_ckF_ok (c := 11) rfl rfl (plainFor_of_name zpn_11) rfl (by decide +kernel)
theorem zt_173 : z_ckM z_m173 z_c173 z_i173 z_h173 = true := z_ckF_ok (c := 11) rfl rfl (plainFor_of_name zpn_11) rfl (by decide +kernel)
theorem zt_174 : z_ckM z_m174 z_c174 z_i174 z_h174 = true := z_ckF_ok (c := 11) rfl rfl (plainFor_of_name zpn_11) rfl (by decide +kernel)
theorem zt_175 : z_ckM z_m175 z_c175 z_i175 z_h175 = true := z_ckF_ok (c := 11) rfl rfl (plainFor_of_name zpn_11) rfl (by decide +kernel)
theorem zt_176 : z_ckM z_m176 z_c176 z_i176 z_h176 = true := z_ckF_ok (c := 12) rfl rfl (plainFor_of_name zpn_12) rfl (by decide +kernel)
theorem zt_177 : z_ckM z_m177 z_c177 z_i177 z_h177 = true := z_ckF_ok (c := 12) rfl rfl (plainFor_of_name zpn_12) rfl (by decide +kernel)
theorem zt_178 : z_ckM z_m178 z_c178 z_i178 z_h178 = true := z_ckF_ok (c := 12) rfl rfl (plainFor_of_name zpn_12) rfl (by decide +kernel)
theorem zt_179 : z_ckM z_m179 z_c179 z_i179 z_h179 = true := z_ckF_ok (c := 12) rfl rfl (plainFor_of_name zpn_12) rfl (by decide +kernel)
theorem zt_180 : z_ckM z_m180 z_c180 z_i180 z_h180 = true := z_ckF_ok (c := 12) rfl rfl (plainFor_of_name zpn_12) rfl (by decide +kernel)
theorem zt_181 : z_ckM z_m181 z_c181 z_i181 z_h181 = true := z_ckF_ok (c := 12) rfl rfl (plainFor_of_name zpn_12) rfl (by decide +kernel)
theorem zt_182 : z_ckM z_m182 z_c182 z_i182 z_h182 = true := z_ckF_ok (c := 12) rfl rfl (plainFor_of_name zpn_12) rfl (by decide +kernel)
theorem zt_183 : z_ckM z_m183 z_c183 z_i183 z_h183 = true := z_ckF_ok (c := 12) rfl rfl (plainFor_of_name zpn_12) rfl (by decide +kernel)
theorem zt_184 : z_ckM z_m184 z_c184 z_i184 z_h184 = true := z_ckF_ok (c := 12) rfl rfl (plainFor_of_name zpn_12) rfl (by decide +kernel)
theorem zt_185 : z_ckM z_m185 z_c185 z_i185 z_h185 = true := z_ckF_ok (c := 12) rfl rfl (plainFor_of_name zpn_12) rfl (by decide +kernel)
theorem zt_186 : z_ckM z_m186 z_c186 z_i186 z_h186 = true := z_ckF_ok (c := 12) rfl rfl (plainFor_of_name zpn_12) rfl (by decide +kernel)
theorem zt_187 : z_ckM z_m187 z_c187 z_i187 z_h187 = true := z_ckF_ok (c := 12) rfl rfl (plainFor_of_name zpn_12) rfl (by decide +kernel)
theorem zt_188 : z_ckM z_m188 z_c188 z_i188 z_h188 = true := z_ckF_ok (c := 12) rfl rfl (plainFor_of_name zpn_12) rfl (by decide +kernel)
theorem zt_189 : z_ckM z_m189 z_c189 z_i189 z_h189 = true := z_ckF_ok (c := 12) rfl rfl (plainFor_of_name zpn_12) rfl (by decide +kernel)
theorem zt_190 : z_ckM z_m190 z_c190 z_i190 z_h190 = true := z_ckF_ok (c := 12) rfl rfl (plainFor_of_name zpn_12) rfl (by decide +kernel)
theorem zt_191 : z_ckM z_m191 z_c191 z_i191 z_h191 = true := z_ckF_ok (c := 12) rfl rfl (plainFor_of_name zpn_12) rfl (by decide +kernel)
theorem zt_192 : z_ckM z_m192 z_c192 z_i192 z_h192 = true := z_ckF_ok (c := 12) rfl rfl (plainFor_of_name zpn_12) rfl (by decide +kernel)
theorem zt_193 : z_ckM z_m193 z_c193 z_i193 z_h193 = true := z_ckF_ok (c := 12) rfl rfl (plainFor_of_name zpn_12) rfl (by decide +kernel)
theorem zt_194 : z_ckM z_m194 z_c194 z_i194 z_h194 = true := z_ckF_ok (c := 12) rfl rfl (plainFor_of_name zpn_12) rfl (by decide +kernel)
theorem zt_195 : z_ckM z_m195 z_c195 z_i195 z_h195 = true := z_ckF_ok (c := 12) rfl rfl (plainFor_of_name zpn_12) rfl (by decide +kernel)
theorem zt_196 : z_ckM z_m196 z_c196 z_i196 z_h196 = true := z_ckF_ok (c := 12) rfl rfl (plainFor_of_name zpn_12) rfl (by decide +kernel)
theorem zt_197 : z_ckM z_m197 z_c197 z_i197 z_h197 = true := z_ckF_ok (c := 12) rfl rfl (plainFor_of_name zpn_12) rfl (by decide +kernel)
theorem zt_198 : z_ckM z_m198 z_c198 z_i198 z_h198 = true := z_ckF_ok (c := 12) rfl rfl (plainFor_of_name zpn_12) rfl (by decide +kernel)
theorem zt_199 : z_ckM z_m199 z_c199 z_i199 z_h199 = true := z_ckF_ok (c := 12) rfl rfl (plainFor_of_name zpn_12) rfl (by decide +kernel)
theorem zt_200 : z_ckM z_m200 z_c200 z_i200 z_h200 = true := z_ckF_ok (c := 12) rfl rfl (plainFor_of_name zpn_12) rfl (by decide +kernel)
theorem zt_201 : z_ckM z_m201 z_c201 z_i201 z_h201 = true := z_ckF_ok (c := 12) rfl rfl (plainFor_of_name zpn_12) rfl (by decide +kernel)
theorem zt_202 : z_ckM z_m202 z_c202 z_i202 z_h202 = true := z_ckF_ok (c := 12) rfl rfl (plainFor_of_name zpn_12) rfl (by decide +kernel)
theorem zt_203 : z_ckM z_m203 z_c203 z_i203 z_h203 = true := z_ckF_ok (c := 12) rfl rfl (plainFor_of_name zpn_12) rfl (by decide +kernel)
theorem zt_204 : z_ckM z_m204 z_c204 z_i204 z_h204 = true := z_ckF_ok (c := 12) rfl rfl (plainFor_of_name zpn_12) rfl (by decide +kernel)
theorem zt_205 : z_ckM z_m205 z_c205 z_i205 z_h205 = true := z_ckF_ok (c := 12) rfl rfl (plainFor_of_name zpn_12) rfl (by decide +kernel)
theorem zt_206 : z_ckM z_m206 z_c206 z_i206 z_h206 = true := z_ckF_ok (c := 12) rfl rfl (plainFor_of_name zpn_12) rfl (by decide +kernel)
theorem zt_207 : z_ckM z_m207 z_c207 z_i207 z_h207 = true := z_ckF_ok (c := 12) rfl rfl (plainFor_of_name zpn_12) rfl (by decide +kernel)
theorem zt_208 : z_ckM z_m208 z_c208 z_i208 z_h208 = true := z_ckF_ok (c := 12) rfl rfl (plainFor_of_name zpn_12) rfl (by decide +kernel)
theorem zt_209 : z_ckM z_m209 z_c209 z_i209 z_h209 = true := z_ckF_ok (c := 12) rfl rfl (plainFor_of_name zpn_12) rfl (by decide +kernel)
theorem zt_210 : z_ckM z_m210 z_c210 z_i210 z_h210 = true := z_ckF_ok (c := 12) rfl rfl (plainFor_of_name zpn_12) rfl (by decide +kernel)
theorem zt_211 : z_ckM z_m211 z_c211 z_i211 z_h211 = true := z_ckF_ok (c := 12) rfl rfl (plainFor_of_name zpn_12) rfl (by decide +kernel)
theorem zt_212 : z_ckM z_m212 z_c212 z_i212 z_h212 = true := z_ckF_ok (c := 12) rfl rfl (plainFor_of_name zpn_12) rfl (by decide +kernel)
theorem zt_213 : z_ckM z_m213 z_c213 z_i213 z_h213 = true := z_ckF_ok (c := 12) rfl rfl (plainFor_of_name zpn_12) rfl (by decide +kernel)
theorem zt_214 : z_ckM z_m214 z_c214 z_i214 z_h214 = true := z_ckF_ok (c := 12) rfl rfl (plainFor_of_name zpn_12) rfl (by decide +kernel)
theorem zt_g4 : z_ck4 z_ms_4 z_cs_4 z_is_4 z_hs_4 := ⟨zt_172, zt_173, zt_174, zt_175, zt_176, zt_177, zt_178, zt_179, zt_180, zt_181, zt_182, zt_183, zt_184, zt_185, zt_186, zt_187, zt_188, zt_189, zt_190, zt_191, zt_192, zt_193, zt_194, zt_195, zt_196, zt_197, zt_198, zt_199, zt_200, zt_201, zt_202, zt_203, zt_204, zt_205, zt_206, zt_207, zt_208, zt_209, zt_210, zt_211, zt_212, zt_213, zt_214, trivial⟩
end
section
/-! the tables are right: the next methods -/
theorem zt_215 : z_ckM z_m215 z_c215 z_i215 z_h215 = true := z_ckF_ok (c := 12) rfl rfl (plainFor_of_name zpn_12) rfl (by decide +kernel)
theorem zt_216 : z_ckM z_m216 z_c216 z_i216 z_h216 = true := z_ckF_ok (c := 12) rfl rfl (plainFor_of_name zpn_12) rfl (by decide +kernel)
theorem zt_217 : z_ckM z_m217 z_c217 z_i217 z_h217 = true := z_ckF_ok (c := 12) rfl rfl (plainFor_of_name zpn_12) rfl (by decide +kernel)
theorem zt_218 : z_ckM z_m218 z_c218 z_i218 z_h218 = true := z_ckF_ok (c := 12) rfl rfl (plainFor_of_name zpn_12) rfl (by decide +kernel)
theorem zt_219 : z_ckM z_m219 z_c219 z_i219 z_h219 = true := z_ckF_ok (c := 12) rfl rfl (plainFor_of_name zpn_12) rfl (by decide +kernel)
theorem zt_220 : z_ckM z_m220 z_c220 z_i220 z_h220 = true := z_ckF_ok (c := 12) rfl rfl (plainFor_of_name zpn_12) rfl (by decide +kernel)
theorem zt_221 : z_ckM z_m221 z_c221 z_i221 z_h221 = true := z_ckF_ok (c := 12) rfl rfl (plainFor_of_name zpn_12) rfl (by decide +kernel)
theorem zt_222 : z_ckM z_m222 z_c222 z_i222 z_h222 = true := z_ckF_ok (c := 12) rfl rfl (plainFor_of_name zpn_12) rfl (by decide +kernel)
theorem zt_223 : z_ckM z_m223 z_c223 z_i223 z_h223 = true := z_ckF_ok (c := 12) rfl rfl (plainFor_of_name zpn_12) rfl (by decide +kernel)
theorem zt_224 : z_ckM z_m224 z_c224 z_i224 z_h224 = true := z_ckF_ok (c := 12) rfl rfl (plainFor_of_name zpn_12) rfl (by decide +kernel)
theorem zt_225 : z_ckM z_m225 z_c225 z_i225 z_h225 = true := z_ckF_ok (c := 12) rfl rfl (plainFor_of_name zpn_12) rfl (by decide +kernel)
theorem zt_226 : z_ckM z_m226 z_c226 z_i226 z_h226 = true := z_ckF_ok (c := 12) rfl rfl (plainFor_of_name zpn_12) rfl (by decide +kernel)
theorem zt_227 : z_ckM z_m227 z_c227 z_i227 z_h227 = true := z_ckF_ok (c := 12) rfl rfl (plainFor_of_name zpn_12) rfl (by decide +kernel)
theorem zt_228 : z_ckM z_m228 z_c228 z_i228 z_h228 = true := z_ckF_ok (c := 12) rfl rfl (plainFor_of_name zpn_12) rfl (by decide +kernel)
theorem zt_229 : z_ckM z_m229 z_c229 z_i229 z_h229 = true := z_ckF_ok (c := 12) rfl rfl (plainFor_of_name zpn_12) rfl (by decide +kernel)
theorem zt_230 : z_ckM z_m230 z_c230 z_i230 z_h230 = true := z_ckF_ok (c := 12) rfl rfl (plainFor_of_name zpn_12) rfl (by decide +kernel)
theorem zt_231 : z_ckM z_m231 z_c231 z_i231 z_h231 = true := z_ckF_ok (c := 12) rfl rfl (plainFor_of_name zpn_12) rfl (by decide +kernel)
theorem zt_232 : z_ckM z_m232 z_c232 z_i232 z_h232 = true := z_ckF_ok (c := 12) rfl rfl (plainFor_of_name zpn_12) rfl (by decide +kernel)
theorem zt_233 : z_ckM z_m233 z_c233 z_i233 z_h233 = true := z_ckF_ok (c := 12) rfl rfl (plainFor_of_name zpn_12) rfl (by decide +kernel)
theorem zt_234 : z_ckM z_m234 z_c234 z_i234 z_h234 = true := z_ckF_ok (c := 12) rfl rfl (plainFor_of_name zpn_12) rfl (by decide +kernel)
theorem zt_235 : z_ckM z_m235 z_c235 z_i235 z_h235 = true := z_ckF_ok (c := 12) rfl rfl (plainFor_of_name zpn_12) rfl (by decide +kernel)
theorem zt_236 : z_ckM z_m236 z_c236 z_i236 z_h236 = true := z_ckF_ok (c := 12) rfl rfl (plainFor_of_name zpn_12) rfl (by decide +kernel)
theorem zt_237 : z_ckM z_m237 z_c237 z_i237 z_h237 = true := z_ckF_ok (c := 12) rfl rfl (plainFor_of_name zpn_12) rfl (by decide +kernel)
theorem zt_238 : z_ckM z_m238 z_c238 z_i238 z_h238 = true := z_ckF_ok (c := 12) rfl rfl (plainFor_of_name zpn_12) rfl (by decide +kernel)
theorem zt_239 : z_ckM z_m239 z_c239 z_i239 z_h239 = true := z_ckF_ok (c := 12) rfl rfl (plainFor_of_name zpn_12) rfl (by decide +kernel)
theorem zt_240 : z_ckM z_m240 z_c240 z_i240 z_h240 = true := z_ckF_ok (c := 12) rfl rfl (plainFor_of_name zpn_12) rfl (by decide +kernel)
theorem zt_241 : z_ckM z_m241 z_c241 z_i241 z_h241 = true := z_ckF_ok (c := 12) rfl rfl (plainFor_of_name zpn_12) rfl (by decide +kernel)
theorem zt_242 : z_ckM z_m242 z_c242 z_i242 z_h242 = true := z_ckF_ok (c := 12) rfl rfl (plainFor_of_name zpn_12) rfl (by decide +kernel)
theorem zt_243 : z_ckM z_m243 z_c243 z_i243 z_h243 = true := z_ckF_ok (c := 12) rfl rfl (plainFor_of_name zpn_12) rfl (by decide +kernel)
theorem zt_244 : z_ckM z_m244 z_c244 z_i244 z_h244 = true := z_ckF_ok (c := 12) rfl rfl (plainFor_of_name zpn_12) rfl (by decide +kernel)
theorem zt_245 : z_ckM z_m245 z_c245 z_i245 z_h245 = true := z_ckF_ok (c := 12) rfl rfl (plainFor_of_name zpn_12) rfl (by decide +kernel)
theorem zt_246 : z_ckM z_m246 z_c246 z_i246 z_h246 = true := z_ckF_ok (c := 12) rfl rfl (plainFor_of_name zpn_12) rfl (by decide +kernel)
theorem zt_247 : z_ckM z_m247 z_c247 z_i247 z_h247 = true := z_ckF_ok (c := 12) rfl rfl (plainFor_of_name zpn_12) rfl (by decide +kernel)
theorem zt_248 : z_ckM z_m248 z_c248 z_i248 z_h248 = true := z_ckF_ok (c := 12) rfl rfl (plainFor_of_name zpn_12) rfl (by decide +kernel)
theorem zt_249 : z_ckM z_m249 z_c249 z_i249 z_h249 = true := z_ckF_ok (c := 12) rfl rfl (plainFor_of_name zpn_12) rfl (by decide +kernel)
theorem zt_250 : z_ckM z_m250 z_c250 z_i250 z_h250 = true := z_ckF_ok (c := 12) rfl rfl (plainFor_of_name zpn_12) rfl (by decide +kernel)
theorem zt_251 : z_ckM z_m251 z_c251 z_i251 z_h251 = true := z_ckF_ok (c := 12) rfl rfl (plainFor_of_name zpn_12) rfl (by decide +kernel)
theorem zt_252 : z_ckM z_m252 z_c252 z_i252 z_h252 = true := z_ckF_ok (c := 12) rfl rfl (plainFor_of_name zpn_12) rfl (by decide +kernel)
theorem zt_253 : z_ckM z_m253 z_c253 z_i253 z_h253 = true := z_ckF_ok (c := 12) rfl rfl (plainFor_of_name zpn_12) rfl (by decide +kernel)
theorem zt_254 : z_ckM z_m254 z_c254 z_i254 z_h254 = true := z_ckF_ok (c := 12) rfl rfl (plainFor_of_name zpn_12) rfl (by decide +kernel)
theorem zt_255 : z_ckM z_m255 z_c255 z_i255 z_h255 = true := z_ckF_ok (c := 12) rfl rfl (plainFor_of_name zpn_12) rfl (by decide +kernel)
theorem zt_256 : z_ckM z_m256 z_c256 z_i256 z_h256 = true := z_ckF_ok (c := 12) rfl rfl (plainFor_of_name zpn_12) rfl (by decide +kernel)
theorem zt_257 : z_ckM z_m257 z_c257 z_i257 z_h257 = true := z_ckF_ok (c := 12) rfl rfl (plainFor_of_name zpn_12) rfl (by decide +kernel)
theorem zt_g5 : z_ck4 z_ms_5 z_cs_5 z_is_5 z_hs_5 := ⟨zt_215, zt_216, zt_217, zt_218, zt_219, zt_220, zt_221, zt_222, zt_223, zt_224, zt_225, zt_226, zt_227, zt_228, zt_229, zt_230, zt_231, zt_232, zt_233, zt_234, zt_235, zt_236, zt_237, zt_238, zt_239, zt_240, zt_241, zt_242, zt_243, zt_244, zt_245, zt_246, zt_247, zt_248, zt_249, zt_250, zt_251, zt_252, zt_253, zt_254, zt_255, zt_256, zt_257, trivial⟩
end
section
/-! the tables are right: the next methods -/
theorem zt_258 : z_ckM z_m258 z_c258 z_i258 z_h258 = true := z_ckF_ok (c := 12) rfl rfl (plainFor_of_name zpn_12) rfl (by decide +kernel)
theorem zt_259 : z_ckM z_m259 z_c259 z_i259 z_h259 = true := z_ckF_ok (c := 12) rfl rfl (plainFor_of_name zpn_12) rfl (by decide +kernel)
theorem zt_260 : z_ckM z_m260 z_c260 z_i260 z_h260 = true := z_ckF_ok (c := 12) rfl rfl (plainFor_of_name zpn_12) rfl (by decide +kernel)
theorem zt_261 : z_ckM z_m261 z_c261 z_i261 z_h261 = true := z_ckF_ok (c := 12) rfl rfl (plainFor_of_name zpn_12) rfl (by decide +kernel)
theorem zt_262 : z_ckM z_m262 z_c262 z_i262 z_h262 = true := z_ckF_ok (c := 12) rfl rfl (plainFor_of_name zpn_12) rfl (by decide +kernel)
theorem zt_263 : z_ckM z_m263 z_c263 z_i263 z_h263 = true := z_ckF_ok (c := 12) rfl rfl (plainFor_of_name zpn_12) rfl (by decide +kernel)
theorem zt_264 : z_ckM z_m264 z_c264 z_i264 z_h264 = true := z_ckF_ok (c := 12) rfl rfl (plainFor_of_name zpn_12) rfl (by decide +kernel)
theorem zt_265 : z_ckM z_m265 z_c265 z_i265 z_h265 = true := z_ckF_ok (c := 12) rfl rfl (plainFor_of_name zpn_12) rfl (by decide +kernel)
theorem zt_266 : z_ckM z_m266 z_c266 z_i266 z_h266 = true := z_ckF_ok (c := 12) rfl rfl (plainFor_of_name zpn_12) rfl (by decide +kernel)
theorem zt_267 : z_ckM z_m267 z_c267 z_i267 z_h267 = true := z_ckF_ok (c := 12) rfl rfl (plainFor_of_name zpn_12) rfl (by decide +kernel)
theorem zt_268 : z_ckM z_m268 z_c268 z_i268 z_h268 = true := z_ckF_ok (c := 12) rfl rfl (plainFor_of_name zpn_12) rfl (by decide +kernel)
theorem zt_269 : z_ckM z_m269 z_c269 z_i269 z_h269 = true := z_ckF_ok (c := 12) rfl rfl (plainFor_of_name zpn_12) rfl (by decide +kernel)
theorem zt_270 : z_ckM z_m270 z_c270 z_i270 z_h270 = true := z_ckF_ok (c := 12) rfl rfl (plainFor_of_name zpn_12) rfl (by decide +kernel)
theorem zt_271 : z_ckM z_m271 z_c271 z_i271 z_h271 = true := z_ckF_ok (c := 12) rfl rfl (plainFor_of_name zpn_12) rfl (by decide +kernel)
theorem zt_272 : z_ckM z_m272 z_c272 z_i272 z_h272 = true := z_ckF_ok (c := 12) rfl rfl (plainFor_of_name zpn_12) rfl (by decide +kernel)
theorem zt_273 : z_ckM z_m273 z_c273 z_i273 z_h273 = true := z_ckF_ok (c := 12) rfl rfl (plainFor_of_name zpn_12) rfl (by decide +kernel)
theorem zt_274 : z_ckM z_m274 z_c274 z_i274 z_h274 = true := z_ckF_ok (c := 12) rfl rfl (plainFor_of_name zpn_12) rfl (by decide +kernel)
theorem zt_275 : z_ckM z_m275 z_c275 z_i275 z_h275 = true := z_ckF_ok (c := 12) rfl rfl (plainFor_of_name zpn_12) rfl (by decide +kernel)
theorem zt_276 : z_ckM z_m276 z_c276 z_i276 z_h276 = true := z_ckF_ok (c := 12) rfl rfl (plainFor_of_name zpn_12) rfl (by decide +kernel)
theorem zt_277 : z_ckM z_m277 z_c277 z_i277 z_h277 = true := z_ckF_ok (c := 12) rfl rfl (plainFor_of_name zpn_12) rfl (by decide +kernel)
theorem zt_278 : z_ckM z_m278 z_c278 z_i278 z_h278 = true := z_ckF_ok (c := 12) rfl rfl (plainFor_of_name zpn_12) rfl (by decide +kernel)
theorem zt_279 : z_ckM z_m279 z_c279 z_i279 z_h279 = true := z_ckF_ok (c := 12) rfl rfl (plainFor_of_name zpn_12) rfl (by decide +kernel)
theorem zt_280 : z_ckM z_m280 z_c280 z_i280 z_h280 = true := z_ckF_ok (c := 12) rfl rfl (plainFor_of_name zpn_12) rfl (by decide +kernel)
theorem zt_281 : z_ckM z_m281 z_c281 z_i281 z_h281 = true := z_ckF_ok (c := 12) rfl rfl (plainFor_of_name zpn_12) rfl (by decide +kernel)
theorem zt_282 : z_ckM z_m282 z_c282 z_i282 z_h282 = true := z_ckF_ok (c := 12) rfl rfl (plainFor_of_name zpn_12) rfl (by decide +kernel)
theorem zt_283 : z_ckM z_m283 z_c283 z_i283 z_h283 = true := z_ckF_ok (c := 12) rfl rfl (plainFor_of_name zpn_12) rfl (by decide +kernel)
theorem zt_284 : z_ckM z_m284 z_c284 z_i284 z_h284 = true := z_ckF_ok (c := 12) rfl rfl (plainFor_of_name zpn_12) rfl (by decide +kernel)
theorem zt_285 : z_ckM z_m285 z_c285 z_i285 z_h285 = true := z_ckF_ok (c := 12) rfl rfl (plainFor_of_name zpn_12) rfl (by decide +kernel)
theorem zt_286 : z_ckM z_m286 z_c286 z_i286 z_h286 = true := z_ckF_ok (c := 12) rfl rfl (plainFor_of_name zpn_12) rfl (by decide +kernel)
theorem zt_287 : z_ckM z_m287 z_c287 z_i287 z_h287 = true := z_ckF_ok (c := 12) rfl rfl (plainFor_of_name zpn_12) rfl (by decide +kernel)
theorem zt_288 : z_ckM z_m288 z_c288 z_i288 z_h288 = true := z_ckF_ok (c := 12) rfl rfl (plainFor_of_name zpn_12) rfl (by decide +kernel)
theorem zt_289 : z_ckM z_m289 z_c289 z_i289 z_h289 = true := z_ckF_ok (c := 12) rfl rfl (plainFor_of_name zpn_12) rfl (by decide +kernel)
theorem zt_290 : z_ckM z_m290 z_c290 z_i290 z_h290 = true := z_ckF_ok (c := 12) rfl rfl (plainFor_of_name zpn_12) rfl (by decide +kernel)
theorem zt_291 : z_ckM z_m291 z_c291 z_i291 z_h291 = true := z_ckF_ok (c := 12) rfl rfl (plainFor_of_name zpn_12) rfl (by decide +kernel)
theorem zt_292 : z_ckM z_m292 z_c292 z_i292 z_h292 = true := z_ckF_ok (c := 12) rfl rfl (plainFor_of_name zpn_12) rfl (by decide +kernel)
theorem zt_293 : z_ckM z_m293 z_c293 z_i293 z_h293 = true := z_ckF_ok (c := 12) rfl rfl (plainFor_of_name zpn_12) rfl (by decide +kernel)
theorem zt_294 : z_ckM z_m294 z_c294 z_i294 z_h294 = true := z_ckF_ok (c := 12) rfl rfl (plainFor_of_name zpn_12) rfl (by decide +kernel)
theorem zt_295 : z_ckM z_m295 z_c295 z_i295 z_h295 = true := z_ckF_ok (c := 12) rfl rfl (plainFor_of_name zpn_12) rfl (by decide +kernel)
theorem zt_296 : z_ckM z_m296 z_c296 z_i296 z_h296 = true := z_ckF_ok (c := 12) rfl rfl (plainFor_of_name zpn_12) rfl (by decide +kernel)
theorem zt_297 : z_ckM z_m297 z_c297 z_i297 z_h297 = true := z_ckF_ok (c := 12) rfl rfl (plainFor_of_name zpn_12) rfl (by decide +kernel)
theorem zt_298 : z_ckM z_m298 z_c298 z_i298 z_h298 = true := z_ckF_ok (c := 12) rfl rfl (plainFor_of_name zpn_12) rfl (by decide +kernel)
theorem zt_299 : z_ckM z_m299 z_c299 z_i299 z_h299 = true := z_ckF_ok (c := 12) rfl rfl (plainFor_of_name zpn_12) rfl (by decide +kernel)
theorem zt_300 : z_ckM z_m300 z_c300 z_i300 z_h300 = true := z_ckF_ok (c := 12) rfl rfl (plainFor_of_name zpn_12) rfl (by decide +kernel)
theorem zt_g6 : z_ck4 z_ms_6 z_cs_6 z_is_6 z_hs_6 := ⟨zt_258, zt_259, zt_260, zt_261, zt_262, zt_263, zt_264, zt_265, zt_266, zt_267, zt_268, zt_269, zt_270, zt_271, zt_272, zt_273, zt_274, zt_275, zt_276, zt_277, zt_278, zt_279, zt_280, zt_281, zt_282, zt_283, zt_284, zt_285, zt_286, zt_287, zt_288, zt_289, zt_290, zt_291, zt_292, zt_293, zt_294, zt_295, zt_296, zt_297, zt_298, zt_299, zt_300, trivial⟩
end
section
/-! the tables are right: the next methods -/
theorem zt_301 : z_ckM z_m301 z_c301 z_i301 z_h301 = true := z_ckF_ok (c := 12) rfl rfl (plainFor_of_name zpn_12) rfl (by decide +kernel)
theorem zt_302 : z_ckM z_m302 z_c302 z_i302 z_h302 = true := z_ckF_ok (c := 12) rfl rfl (plainFor_of_name zpn_12) rfl (by decide +kernel)
theorem zt_303 : z_ckM z_m303 z_c303 z_i303 z_h303 = true := z_ckF_ok (c := 12) rfl rfl (plainFor_of_name zpn_12) rfl (by decide +kernel)
theorem zt_304 : z_ckM z_m304 z_c304 z_i304 z_h304 = true := z_ckF_ok (c := 12) rfl rfl (plainFor_of_name zpn_12) rfl (by decide +kernel)
theorem zt_305 : z_ckM z_m305 z_c305 z_i305 z_h305 = true := z_ckF_ok (c := 12) rfl rfl (plainFor_of_name zpn_12) rfl (by decide +kernel)
theorem zt_306 : z_ckM z_m306 z_c306 z_i306 z_h306 = true := z_ckF_ok (c := 12) rfl rfl (plainFor_of_name zpn_12) rfl (by decide +kernel)
theorem zt_307 : z_ckM z_m307 z_c307 z_i307 z_h307 = true := z_ckF_ok (c := 12) rfl rfl (plainFor_of_name zpn_12) rfl (by decide +kernel)
theorem zt_308 : z_ckM z_m308 z_c308 z_i308 z_h308 = true := z_ckF_ok (c := 12) rfl rfl (plainFor_of_name zpn_12) rfl (by decide +kernel)
theorem zt_309 : z_ckM z_m309 z_c309 z_i309 z_h309 = true := z_ckF_ok (c := 12) rfl rfl (plainFor_of_name zpn_12) rfl (by decide +kernel)
theorem zt_310 : z_ckM z_m310 z_c310 z_i310 z_h310 = true := z_ckF_ok (c := 12) rfl rfl (plainFor_of_name zpn_12) rfl (by decide +kernel)
theorem zt_311 : z_ckM z_m311 z_c311 z_i311 z_h311 = true := z_ckF_ok (c := 13) rfl rfl (by decide +kernel) rfl (by decide +kernel)
theorem zt_312 : z_ckM z_m312 z_c312 z_i312 z_h312 = true := z_ckF_ok (c := 14) rfl rfl (by decide +kernel) rfl (by decide +kernel)
theorem zt_313 : z_ckM z_m313 z_c313 z_i313 z_h313 = true := z_ckF_ok (c := 15) rfl rfl (by decide +kernel) rfl (by decide +kernel)
theorem zt_314 : z_ckM z_m314 z_c314 z_i314 z_h314 = true := z_ckF_ok (c := 15) rfl rfl (by decide +kernel) rfl (by decide +kernel)
theorem zt_315 : z_ckM z_m315 z_c315 z_i315 z_h315 = true := z_ckF_ok (c := 16) rfl rfl (plainFor_of_name zpn_16) rfl (by decide +kernel)
theorem zt_316 : z_ckM z_m316 z_c316 z_i316 z_h316 = true := z_ckF_ok (c := 16) rfl rfl (plainFor_of_name zpn_16) rfl (by decide +kernel)
theorem zt_317 : z_ckM z_m317 z_c317 z_i317 z_h317 = true := z_ckF_ok (c := 16) rfl rfl (plainFor_of_name zpn_16) rfl (by decide +kernel)
theorem zt_318 : z_ckM z_m318 z_c318 z_i318 z_h318 = true := z_ckF_ok (c := 16) rfl rfl (plainFor_of_name zpn_16) rfl (by decide +kernel)
theorem zt_319 : z_ckM z_m319 z_c319 z_i319 z_h319 = true := z_ckF_ok (c := 16) rfl rfl (plainFor_of_name zpn_16) rfl (by decide +kernel)
theorem zt_320 : z_ckM z_m320 z_c320 z_i320 z_h320 = true := z_ckF_ok (c := 16) rfl rfl (plainFor_of_name zpn_16) rfl (by decide +kernel)
theorem zt_321 : z_ckM z_m321 z_c321 z_i321 z_h321 = true := z_ckF_ok (c := 16) rfl rfl (plainFor_of_name zpn_16) rfl (by decide +kernel)
theorem zt_322 : z_ckM z_m322 z_c322 z_i322 z_h322 = true := z_ckF_ok (c := 16) rfl rfl (plainFor_of_name zpn_16) rfl (by decide +kernel)
theorem zt_323 : z_ckM z_m323 z_c323 z_i323 z_h323 = true := z_ckF_ok (c := 16) rfl rfl (plainFor_of_name zpn_16) rfl (by decide +kernel)
theorem zt_324 : z_ckM z_m324 z_c324 z_i324 z_h324 = true := z_ckF_ok (c := 16) rfl rfl (plainFor_of_name zpn_16) rfl (by decide +kernel)
theorem zt_325 : z_ckM z_m325 z_c325 z_i325 z_h325 = true := z_ckF_ok (c := 16) rfl rfl (plainFor_of_name zpn_16) rfl (by decide +kernel)
theorem zt_326 : z_ckM z_m326 z_c326 z_i326 z_h326 = true := z_ckF_ok (c := 16) rfl rfl (plainFor_of_name zpn_16) rfl (by decide +kernel)
theorem zt_327 : z_ckM z_m327 z_c327 z_i327 z_h327 = true := z_ckF_ok (c := 16) rfl rfl (plainFor_of_name zpn_16) rfl (by decide +kernel)
theorem zt_328 : z_ckM z_m328 z_c328 z_i328 z_h328 = true := z_ckF_ok (c := 16) rfl rfl (plainFor_of_name zpn_16) rfl (by decide +kernel)
theorem zt_329 : z_ckM z_m329 z_c329 z_i329 z_h329 = true := z_ckF_ok (c := 16) rfl rfl (plainFor_of_name zpn_16) rfl (by decide +kernel)
theorem zt_330 : z_ckM z_m330 z_c330 z_i330 z_h330 = true := z_ckF_ok (c := 16) rfl rfl (plainFor_of_name zpn_16) rfl (by decide +kernel)
theorem zt_331 : z_ckM z_m331 z_c331 z_i331 z_h331 = true := z_ckF_ok (c := 16) rfl rfl (plainFor_of_name zpn_16) rfl (by decide +kernel)
theorem zt_332 : z_ckM z_m332 z_c332 z_i332 z_h332 = true := z_ckF_ok (c := 16) rfl rfl (plainFor_of_name zpn_16) rfl (by decide +kernel)
theorem zt_333 : z_ckM z_m333 z_c333 z_i333 z_h333 = true := z_ckF_ok (c := 16) rfl rfl (plainFor_of_name zpn_16) rfl (by decide +kernel)
theorem zt_334 : z_ckM z_m334 z_c334 z_i334 z_h334 = true := z_ckF_ok (c := 16) rfl rfl (plainFor_of_name zpn_16) rfl (by decide +kernel)
theorem zt_335 : z_ckM z_m335 z_c335 z_i335 z_h335 = true := z_ckF_ok (c := 16) rfl rfl (plainFor_of_name zpn_16) rfl (by decide +kernel)
theorem zt_336 : z_ckM z_m336 z_c336 z_i336 z_h336 = true := z_ckF_ok (c := 16) rfl rfl (plainFor_of_name zpn_16) rfl (by decide +kernel)
theorem zt_337 : z_ckM z_m337 z_c337 z_i337 z_h337 = true := z_ckF_ok (c := 16) rfl rfl (plainFor_of_name zpn_16) rfl (by decide +kernel)
theorem zt_338 : z_ckM z_m338 z_c338 z_i338 z_h338 = true := z_ckF_ok (c := 16) rfl rfl (plainFor_of_name zpn_16) rfl (by decide +kernel)
theorem zt_339 : z_ckM z_m339 z_c339 z_i339 z_h339 = true := z_ckF_ok (c := 16) rfl rfl (plainFor_of_name zpn_16) rfl (by decide +kernel)
theorem zt_340 : z_ckM z_m340 z_c340 z_i340 z_h340 = true := z_ckF_ok (c := 16) rfl rfl (plainFor_of_name zpn_16) rfl (by decide +kernel)
theorem zt_341 : z_ckM z_m341 z_c341 z_i341 z_h341 = true := z_ckF_ok (c := 16) rfl rfl (plainFor_of_name zpn_16) rfl (by decide +kernel)
theorem zt_342 : z_ckM z_m342 z_c342 z_i342 z_h342 = true := z_ckF_ok (c := 16) rfl rfl (plainFor_of_name zpn_16) rfl (by decide +kernel)
theorem z_ckL_cut {M : zMi} {is : List zJ} {hs : List zHd} : ∀ (n k : Nat) (cs : List zI) (qs : List zJ), z_ckL M is hs k (cs.take n) (qs.take n) = true → z_ckL M is hs (k + n) (cs.drop n) (qs.drop n) = true → z_ckL M is hs k cs qs = true
  | 0, k, cs, qs, _, h2 => h2
  | n + 1, k, [], [], _, _ => rfl
  | n + 1, k, [], _ :: _, h1, _ => by cases h1
  | n + 1, k, _ :: _, [], h1, _ => by cases h1
  | n + 1, k, c :: cs, q :: qs, h1, h2 => by
    rw [List.take_succ_cons, List.take_succ_cons, z_ckL, Bool.and_eq_true] at h1
    rw [List.drop_succ_cons, List.drop_succ_cons, show k + (n + 1) = k + 1 + n by omega] at h2
    rw [z_ckL, Bool.and_eq_true]
    exact ⟨h1.1, z_ckL_cut n (k + 1) cs qs h1.2 h2⟩
end
section
/-! the tables are right: the law, a piece more -/
set_option maxRecDepth 100000 in
theorem zt_343_0 : z_ckL z_m343 z_i343 z_h343 0 ((z_c343.drop 0).take 100) ((z_i343.drop 0).take 100) = true := z_ckP_ok (c := 16) rfl rfl (by decide +kernel)
set_option maxRecDepth 100000 in
theorem zt_343_100 : z_ckL z_m343 z_i343 z_h343 100 ((z_c343.drop 100).take 100) ((z_i343.drop 100).take 100) = true := z_ckP_ok (c := 16) rfl rfl (by decide +kernel)
set_option maxRecDepth 100000 in
theorem zt_343_200 : z_ckL z_m343 z_i343 z_h343 200 ((z_c343.drop 200).take 100) ((z_i343.drop 200).take 100) = true := z_ckP_ok (c := 16) rfl rfl (by decide +kernel)
set_option maxRecDepth 100000 in
theorem zt_343_300 : z_ckL z_m343 z_i343 z_h343 300 ((z_c343.drop 300).take 100) ((z_i343.drop 300).take 100) = true := z_ckP_ok (c := 16) rfl rfl (by decide +kernel)
set_option maxRecDepth 100000 in
theorem zt_343_400 : z_ckL z_m343 z_i343 z_h343 400 ((z_c343.drop 400).take 100) ((z_i343.drop 400).take 100) = true := z_ckP_ok (c := 16) rfl rfl (by decide +kernel)
set_option maxRecDepth 100000 in
theorem zt_343_500 : z_ckL z_m343 z_i343 z_h343 500 ((z_c343.drop 500).take 100) ((z_i343.drop 500).take 100) = true := z_ckP_ok (c := 16) rfl rfl (by decide +kernel)
set_option maxRecDepth 100000 in
theorem zt_343_600 : z_ckL z_m343 z_i343 z_h343 600 ((z_c343.drop 600).take 100) ((z_i343.drop 600).take 100) = true := z_ckP_ok (c := 16) rfl rfl (by decide +kernel)
set_option maxRecDepth 100000 in
theorem zt_343_700 : z_ckL z_m343 z_i343 z_h343 700 ((z_c343.drop 700).take 100) ((z_i343.drop 700).take 100) = true := z_ckP_ok (c := 16) rfl rfl (by decide +kernel)
set_option maxRecDepth 100000 in
theorem zt_343_800 : z_ckL z_m343 z_i343 z_h343 800 ((z_c343.drop 800).take 100) ((z_i343.drop 800).take 100) = true := z_ckP_ok (c := 16) rfl rfl (by decide +kernel)
set_option maxRecDepth 100000 in
theorem zt_343_L900 : z_ckL z_m343 z_i343 z_h343 900 (z_c343.drop 900) (z_i343.drop 900) = true := z_ckE_ok (c := 16) rfl rfl (by decide +kernel)
theorem zt_343_L800 : z_ckL z_m343 z_i343 z_h343 800 (z_c343.drop 800) (z_i343.drop 800) = true := z_ckL_cut 100 800 _ _ zt_343_800 (by rw [List.drop_drop, List.drop_drop]; exact zt_343_L900)
theorem zt_343_L700 : z_ckL z_m343 z_i343 z_h343 700 (z_c343.drop 700) (z_i343.drop 700) = true := z_ckL_cut 100 700 _ _ zt_343_700 (by rw [List.drop_drop, List.drop_drop]; exact zt_343_L800)
theorem zt_343_L600 : z_ckL z_m343 z_i343 z_h343 600 (z_c343.drop 600) (z_i343.drop 600) = true := z_ckL_cut 100 600 _ _ zt_343_600 (by rw [List.drop_drop, List.drop_drop]; exact zt_343_L700)
theorem zt_343_L500 : z_ckL z_m343 z_i343 z_h343 500 (z_c343.drop 500) (z_i343.drop 500) = true := z_ckL_cut 100 500 _ _ zt_343_500 (by rw [List.drop_drop, List.drop_drop]; exact zt_343_L600)
theorem zt_343_L400 : z_ckL z_m343 z_i343 z_h343 400 (z_c343.drop 400) (z_i343.drop 400) = true := z_ckL_cut 100 400 _ _ zt_343_400 (by rw [List.drop_drop, List.drop_drop]; exact zt_343_L500)
theorem zt_343_L300 : z_ckL z_m343 z_i343 z_h343 300 (z_c343.drop 300) (z_i343.drop 300) = true := z_ckL_cut 100 300 _ _ zt_343_300 (by rw [List.drop_drop, List.drop_drop]; exact zt_343_L400)
theorem zt_343_L200 : z_ckL z_m343 z_i343 z_h343 200 (z_c343.drop 200) (z_i343.drop 200) = true := z_ckL_cut 100 200 _ _ zt_343_200 (by rw [List.drop_drop, List.drop_drop]; exact zt_343_L300)
theorem zt_343_L100 : z_ckL z_m343 z_i343 z_h343 100 (z_c343.drop 100) (z_i343.drop 100) = true := z_ckL_cut 100 100 _ _ zt_343_100 (by rw [List.drop_drop, List.drop_drop]; exact zt_343_L200)
theorem zt_343_L0 : z_ckL z_m343 z_i343 z_h343 0 (z_c343.drop 0) (z_i343.drop 0) = true := z_ckL_cut 100 0 _ _ zt_343_0 (by rw [List.drop_drop, List.drop_drop]; exact zt_343_L100)
theorem zt_343 : z_ckM z_m343 z_c343 z_i343 z_h343 = true := by
  have h := zt_343_L0
  rw [List.drop_zero, List.drop_zero] at h
  unfold z_ckM
  rw [h, Bool.and_true]
  decide +kernel
theorem zt_344 : z_ckM z_m344 z_c344 z_i344 z_h344 = true := z_ckF_ok (c := 12) rfl rfl (plainFor_of_name zpn_12) rfl (by decide +kernel)
theorem zt_g7 : z_ck4 z_ms_7 z_cs_7 z_is_7 z_hs_7 := ⟨zt_301, zt_302, zt_303, zt_304, zt_305, zt_306, zt_307, zt_308, zt_309, zt_310, zt_311, zt_312, zt_313, zt_314, zt_315, zt_316, zt_317, zt_318, zt_319, zt_320, zt_321, zt_322, zt_323, zt_324, zt_325, zt_326, zt_327, zt_328, zt_329, zt_330, zt_331, zt_332, zt_333, zt_334, zt_335, zt_336, zt_337, zt_338, zt_339, zt_340, zt_341, zt_342, zt_343, trivial⟩
theorem zt_g8 : z_ck4 z_ms_8 z_cs_8 z_is_8 z_hs_8 := ⟨zt_344, trivial⟩
end
section
/-! all tables are right -/
theorem z_ck4_all : z_ck4 z_ms z_cs z_is z_hs := z_ck4_app zt_g0 (z_ck4_app zt_g1 (z_ck4_app zt_g2 (z_ck4_app zt_g3 (z_ck4_app zt_g4 (z_ck4_app zt_g5 (z_ck4_app zt_g6 (z_ck4_app zt_g7 (zt_g8))))))))
theorem z_OK_all : z_OK := fun j M cs is hs h1 h2 h3 h4 => z_ck4_at z_ck4_all j M cs is hs h1 h2 h3 h4
theorem z_LEN_all : z_LEN := z_ck4_len z_ck4_all
end
