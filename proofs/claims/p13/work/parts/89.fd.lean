/-! A QUICKER READER OF THE BYTES: what the model's reader does, found in a table of the opcodes; the check of a table row over it (printed with wip/q/gen_fd.py) -/
noncomputable def zfct : { F : Nat → Nat → Decoder Instr // ∀ pc, Decoder.instr pc = Reader.u1 >>= F pc } := ⟨_, fun _ => rfl⟩
abbrev zFk : Type := Instr ⊕ ((Nat → Instr) ⊕ ((Int → Instr) ⊕ ((Nat → Instr) ⊕ ((Int → Instr) ⊕ Bool))))
noncomputable def zF0 : zFk := .inr (.inr (.inr (.inr (.inr false))))
noncomputable def zfr (k : zFk) : Decoder Instr := match k with
  | .inl i => pure i
  | .inr (.inl f) => do pure (f (← Reader.u1))
  | .inr (.inr (.inl f)) => do pure (f (← Reader.s1))
  | .inr (.inr (.inr (.inl f))) => do pure (f (← Reader.u2))
  | .inr (.inr (.inr (.inr (.inl f)))) => do pure (f (← Reader.s2))
  | .inr (.inr (.inr (.inr (.inr _)))) => do pure (.iinc (← Reader.u1) (← Reader.s1))
noncomputable def zIso (k : zFk) : Bool := match k with
  | .inr (.inr (.inr (.inr (.inr false)))) => true
  | _ => false
noncomputable def zfL : List (List zFk) := [[.inl (.nop), .inl (.aconst_null), .inl (.iconst (-1)), .inl (.iconst (0)), .inl (.iconst (1)), .inl (.iconst (2)), .inl (.iconst (3)), .inl (.iconst (4)), .inl (.iconst (5)), .inl (.lconst 0), .inl (.lconst 1), zF0, zF0, zF0, zF0, zF0],
  [.inr (.inr (.inl fun a => .bipush a)), .inr (.inr (.inr (.inr (.inl fun a => .sipush a)))), .inr (.inl fun a => .ldc a), .inr (.inr (.inr (.inl fun a => .ldc_w a))), .inr (.inr (.inr (.inl fun a => .ldc2_w a))), .inr (.inl fun a => .iload a), .inr (.inl fun a => .lload a), zF0, zF0, .inr (.inl fun a => .aload a), .inl (.iload_n 0), .inl (.iload_n 1), .inl (.iload_n 2), .inl (.iload_n 3), .inl (.lload_n 0), .inl (.lload_n 1)],
  [.inl (.lload_n 2), .inl (.lload_n 3), zF0, zF0, zF0, zF0, zF0, zF0, zF0, zF0, .inl (.aload_n 0), .inl (.aload_n 1), .inl (.aload_n 2), .inl (.aload_n 3), .inl (.iaload), .inl (.laload)],
  [zF0, zF0, .inl (.aaload), .inl (.baload), zF0, zF0, .inr (.inl fun a => .istore a), .inr (.inl fun a => .lstore a), zF0, zF0, .inr (.inl fun a => .astore a), .inl (.istore_n 0), .inl (.istore_n 1), .inl (.istore_n 2), .inl (.istore_n 3), .inl (.lstore_n 0)],
  [.inl (.lstore_n 1), .inl (.lstore_n 2), .inl (.lstore_n 3), zF0, zF0, zF0, zF0, zF0, zF0, zF0, zF0, .inl (.astore_n 0), .inl (.astore_n 1), .inl (.astore_n 2), .inl (.astore_n 3), .inl (.iastore)],
  [.inl (.lastore), zF0, zF0, .inl (.aastore), .inl (.bastore), zF0, zF0, .inl (.pop), .inl (.pop2), .inl (.dup), zF0, zF0, .inl (.dup2), zF0, zF0, zF0],
  [.inl (.iadd), .inl (.ladd), zF0, zF0, .inl (.isub), zF0, zF0, zF0, .inl (.imul), .inl (.lmul), zF0, zF0, .inl (.idiv), .inl (.ldiv), zF0, zF0],
  [.inl (.irem), zF0, zF0, zF0, zF0, zF0, zF0, zF0, .inl (.ishl), zF0, .inl (.ishr), zF0, .inl (.iushr), zF0, .inl (.iand), zF0],
  [.inl (.ior), zF0, .inl (.ixor), zF0, .inr (.inr (.inr (.inr (.inr true)))), .inl (.i2l), zF0, zF0, .inl (.l2i), zF0, zF0, zF0, zF0, zF0, zF0, zF0],
  [zF0, .inl (.i2b), zF0, zF0, .inl (.lcmp), zF0, zF0, zF0, zF0, .inr (.inr (.inr (.inr (.inl fun a => .ifCond .eq a)))), .inr (.inr (.inr (.inr (.inl fun a => .ifCond .ne a)))), .inr (.inr (.inr (.inr (.inl fun a => .ifCond .lt a)))), .inr (.inr (.inr (.inr (.inl fun a => .ifCond .ge a)))), .inr (.inr (.inr (.inr (.inl fun a => .ifCond .gt a)))), .inr (.inr (.inr (.inr (.inl fun a => .ifCond .le a)))), .inr (.inr (.inr (.inr (.inl fun a => .if_icmp .eq a))))],
  [.inr (.inr (.inr (.inr (.inl fun a => .if_icmp .ne a)))), .inr (.inr (.inr (.inr (.inl fun a => .if_icmp .lt a)))), .inr (.inr (.inr (.inr (.inl fun a => .if_icmp .ge a)))), .inr (.inr (.inr (.inr (.inl fun a => .if_icmp .gt a)))), .inr (.inr (.inr (.inr (.inl fun a => .if_icmp .le a)))), .inr (.inr (.inr (.inr (.inl fun a => .if_acmp .eq a)))), .inr (.inr (.inr (.inr (.inl fun a => .if_acmp .ne a)))), .inr (.inr (.inr (.inr (.inl fun a => .goto a)))), zF0, zF0, zF0, zF0, .inl (.ireturn), .inl (.lreturn), zF0, zF0],
  [.inl (.areturn), .inl (.return_), .inr (.inr (.inr (.inl fun a => .getstatic a))), .inr (.inr (.inr (.inl fun a => .putstatic a))), .inr (.inr (.inr (.inl fun a => .getfield a))), .inr (.inr (.inr (.inl fun a => .putfield a))), .inr (.inr (.inr (.inl fun a => .invokevirtual a))), .inr (.inr (.inr (.inl fun a => .invokespecial a))), .inr (.inr (.inr (.inl fun a => .invokestatic a))), zF0, zF0, .inr (.inr (.inr (.inl fun a => .new a))), zF0, .inr (.inr (.inr (.inl fun a => .anewarray a))), .inl (.arraylength), .inl (.athrow)],
  [.inr (.inr (.inr (.inl fun a => .checkcast a))), zF0, zF0, zF0, zF0, zF0, .inr (.inr (.inr (.inr (.inl fun a => .ifnull a)))), .inr (.inr (.inr (.inr (.inl fun a => .ifnonnull a)))), zF0, zF0, zF0, zF0, zF0, zF0, zF0, zF0]]
noncomputable def zfk (b : Nat) : zFk := match zfL[b / 16]? with
  | some L => (match L[b % 16]? with | some k => k | none => zF0)
  | none => zF0
noncomputable def zOkb (b : Nat) : Prop := ∀ pc, zfct.1 pc b = zfr (zfk b)
theorem zOkb_of {b : Nat} (k : zFk) (h : zfk b = k) (h2 : ∀ pc, zfct.1 pc b = zfr k) : zOkb b := fun pc => by rw [h, h2]
theorem zdk_0 : zOkb 0 := zOkb_of (.inl (.nop)) rfl (fun _ => rfl)
theorem zdk_1 : zOkb 1 := zOkb_of (.inl (.aconst_null)) rfl (fun _ => rfl)
theorem zdk_2 : zOkb 2 := zOkb_of (.inl (.iconst (-1))) rfl (fun _ => rfl)
theorem zdk_3 : zOkb 3 := zOkb_of (.inl (.iconst (0))) rfl (fun _ => rfl)
theorem zdk_4 : zOkb 4 := zOkb_of (.inl (.iconst (1))) rfl (fun _ => rfl)
theorem zdk_5 : zOkb 5 := zOkb_of (.inl (.iconst (2))) rfl (fun _ => rfl)
theorem zdk_6 : zOkb 6 := zOkb_of (.inl (.iconst (3))) rfl (fun _ => rfl)
theorem zdk_7 : zOkb 7 := zOkb_of (.inl (.iconst (4))) rfl (fun _ => rfl)
theorem zdk_8 : zOkb 8 := zOkb_of (.inl (.iconst (5))) rfl (fun _ => rfl)
theorem zdk_9 : zOkb 9 := zOkb_of (.inl (.lconst 0)) rfl (fun _ => rfl)
theorem zdk_10 : zOkb 10 := zOkb_of (.inl (.lconst 1)) rfl (fun _ => rfl)
theorem zdk_16 : zOkb 16 := zOkb_of (.inr (.inr (.inl fun a => .bipush a))) rfl (fun _ => rfl)
theorem zdk_17 : zOkb 17 := zOkb_of (.inr (.inr (.inr (.inr (.inl fun a => .sipush a))))) rfl (fun _ => rfl)
theorem zdk_18 : zOkb 18 := zOkb_of (.inr (.inl fun a => .ldc a)) rfl (fun _ => rfl)
theorem zdk_19 : zOkb 19 := zOkb_of (.inr (.inr (.inr (.inl fun a => .ldc_w a)))) rfl (fun _ => rfl)
theorem zdk_20 : zOkb 20 := zOkb_of (.inr (.inr (.inr (.inl fun a => .ldc2_w a)))) rfl (fun _ => rfl)
theorem zdk_21 : zOkb 21 := zOkb_of (.inr (.inl fun a => .iload a)) rfl (fun _ => rfl)
theorem zdk_22 : zOkb 22 := zOkb_of (.inr (.inl fun a => .lload a)) rfl (fun _ => rfl)
theorem zdk_25 : zOkb 25 := zOkb_of (.inr (.inl fun a => .aload a)) rfl (fun _ => rfl)
theorem zdk_26 : zOkb 26 := zOkb_of (.inl (.iload_n 0)) rfl (fun _ => rfl)
theorem zdk_27 : zOkb 27 := zOkb_of (.inl (.iload_n 1)) rfl (fun _ => rfl)
theorem zdk_28 : zOkb 28 := zOkb_of (.inl (.iload_n 2)) rfl (fun _ => rfl)
theorem zdk_29 : zOkb 29 := zOkb_of (.inl (.iload_n 3)) rfl (fun _ => rfl)
theorem zdk_30 : zOkb 30 := zOkb_of (.inl (.lload_n 0)) rfl (fun _ => rfl)
theorem zdk_31 : zOkb 31 := zOkb_of (.inl (.lload_n 1)) rfl (fun _ => rfl)
theorem zdk_32 : zOkb 32 := zOkb_of (.inl (.lload_n 2)) rfl (fun _ => rfl)
theorem zdk_33 : zOkb 33 := zOkb_of (.inl (.lload_n 3)) rfl (fun _ => rfl)
theorem zdk_42 : zOkb 42 := zOkb_of (.inl (.aload_n 0)) rfl (fun _ => rfl)
theorem zdk_43 : zOkb 43 := zOkb_of (.inl (.aload_n 1)) rfl (fun _ => rfl)
theorem zdk_44 : zOkb 44 := zOkb_of (.inl (.aload_n 2)) rfl (fun _ => rfl)
theorem zdk_45 : zOkb 45 := zOkb_of (.inl (.aload_n 3)) rfl (fun _ => rfl)
theorem zdk_46 : zOkb 46 := zOkb_of (.inl (.iaload)) rfl (fun _ => rfl)
theorem zdk_47 : zOkb 47 := zOkb_of (.inl (.laload)) rfl (fun _ => rfl)
theorem zdk_50 : zOkb 50 := zOkb_of (.inl (.aaload)) rfl (fun _ => rfl)
theorem zdk_51 : zOkb 51 := zOkb_of (.inl (.baload)) rfl (fun _ => rfl)
theorem zdk_54 : zOkb 54 := zOkb_of (.inr (.inl fun a => .istore a)) rfl (fun _ => rfl)
theorem zdk_55 : zOkb 55 := zOkb_of (.inr (.inl fun a => .lstore a)) rfl (fun _ => rfl)
theorem zdk_58 : zOkb 58 := zOkb_of (.inr (.inl fun a => .astore a)) rfl (fun _ => rfl)
theorem zdk_59 : zOkb 59 := zOkb_of (.inl (.istore_n 0)) rfl (fun _ => rfl)
theorem zdk_60 : zOkb 60 := zOkb_of (.inl (.istore_n 1)) rfl (fun _ => rfl)
theorem zdk_61 : zOkb 61 := zOkb_of (.inl (.istore_n 2)) rfl (fun _ => rfl)
theorem zdk_62 : zOkb 62 := zOkb_of (.inl (.istore_n 3)) rfl (fun _ => rfl)
theorem zdk_63 : zOkb 63 := zOkb_of (.inl (.lstore_n 0)) rfl (fun _ => rfl)
theorem zdk_64 : zOkb 64 := zOkb_of (.inl (.lstore_n 1)) rfl (fun _ => rfl)
theorem zdk_65 : zOkb 65 := zOkb_of (.inl (.lstore_n 2)) rfl (fun _ => rfl)
theorem zdk_66 : zOkb 66 := zOkb_of (.inl (.lstore_n 3)) rfl (fun _ => rfl)
theorem zdk_75 : zOkb 75 := zOkb_of (.inl (.astore_n 0)) rfl (fun _ => rfl)
theorem zdk_76 : zOkb 76 := zOkb_of (.inl (.astore_n 1)) rfl (fun _ => rfl)
theorem zdk_77 : zOkb 77 := zOkb_of (.inl (.astore_n 2)) rfl (fun _ => rfl)
theorem zdk_78 : zOkb 78 := zOkb_of (.inl (.astore_n 3)) rfl (fun _ => rfl)
theorem zdk_79 : zOkb 79 := zOkb_of (.inl (.iastore)) rfl (fun _ => rfl)
theorem zdk_80 : zOkb 80 := zOkb_of (.inl (.lastore)) rfl (fun _ => rfl)
theorem zdk_83 : zOkb 83 := zOkb_of (.inl (.aastore)) rfl (fun _ => rfl)
theorem zdk_84 : zOkb 84 := zOkb_of (.inl (.bastore)) rfl (fun _ => rfl)
theorem zdk_87 : zOkb 87 := zOkb_of (.inl (.pop)) rfl (fun _ => rfl)
theorem zdk_88 : zOkb 88 := zOkb_of (.inl (.pop2)) rfl (fun _ => rfl)
theorem zdk_89 : zOkb 89 := zOkb_of (.inl (.dup)) rfl (fun _ => rfl)
theorem zdk_92 : zOkb 92 := zOkb_of (.inl (.dup2)) rfl (fun _ => rfl)
theorem zdk_96 : zOkb 96 := zOkb_of (.inl (.iadd)) rfl (fun _ => rfl)
theorem zdk_97 : zOkb 97 := zOkb_of (.inl (.ladd)) rfl (fun _ => rfl)
theorem zdk_100 : zOkb 100 := zOkb_of (.inl (.isub)) rfl (fun _ => rfl)
theorem zdk_104 : zOkb 104 := zOkb_of (.inl (.imul)) rfl (fun _ => rfl)
theorem zdk_105 : zOkb 105 := zOkb_of (.inl (.lmul)) rfl (fun _ => rfl)
theorem zdk_108 : zOkb 108 := zOkb_of (.inl (.idiv)) rfl (fun _ => rfl)
theorem zdk_109 : zOkb 109 := zOkb_of (.inl (.ldiv)) rfl (fun _ => rfl)
theorem zdk_112 : zOkb 112 := zOkb_of (.inl (.irem)) rfl (fun _ => rfl)
theorem zdk_120 : zOkb 120 := zOkb_of (.inl (.ishl)) rfl (fun _ => rfl)
theorem zdk_122 : zOkb 122 := zOkb_of (.inl (.ishr)) rfl (fun _ => rfl)
theorem zdk_124 : zOkb 124 := zOkb_of (.inl (.iushr)) rfl (fun _ => rfl)
theorem zdk_126 : zOkb 126 := zOkb_of (.inl (.iand)) rfl (fun _ => rfl)
theorem zdk_128 : zOkb 128 := zOkb_of (.inl (.ior)) rfl (fun _ => rfl)
theorem zdk_130 : zOkb 130 := zOkb_of (.inl (.ixor)) rfl (fun _ => rfl)
theorem zdk_132 : zOkb 132 := zOkb_of (.inr (.inr (.inr (.inr (.inr true))))) rfl (fun _ => rfl)
theorem zdk_133 : zOkb 133 := zOkb_of (.inl (.i2l)) rfl (fun _ => rfl)
theorem zdk_136 : zOkb 136 := zOkb_of (.inl (.l2i)) rfl (fun _ => rfl)
theorem zdk_145 : zOkb 145 := zOkb_of (.inl (.i2b)) rfl (fun _ => rfl)
theorem zdk_148 : zOkb 148 := zOkb_of (.inl (.lcmp)) rfl (fun _ => rfl)
theorem zdk_153 : zOkb 153 := zOkb_of (.inr (.inr (.inr (.inr (.inl fun a => .ifCond .eq a))))) rfl (fun _ => rfl)
theorem zdk_154 : zOkb 154 := zOkb_of (.inr (.inr (.inr (.inr (.inl fun a => .ifCond .ne a))))) rfl (fun _ => rfl)
theorem zdk_155 : zOkb 155 := zOkb_of (.inr (.inr (.inr (.inr (.inl fun a => .ifCond .lt a))))) rfl (fun _ => rfl)
theorem zdk_156 : zOkb 156 := zOkb_of (.inr (.inr (.inr (.inr (.inl fun a => .ifCond .ge a))))) rfl (fun _ => rfl)
theorem zdk_157 : zOkb 157 := zOkb_of (.inr (.inr (.inr (.inr (.inl fun a => .ifCond .gt a))))) rfl (fun _ => rfl)
theorem zdk_158 : zOkb 158 := zOkb_of (.inr (.inr (.inr (.inr (.inl fun a => .ifCond .le a))))) rfl (fun _ => rfl)
theorem zdk_159 : zOkb 159 := zOkb_of (.inr (.inr (.inr (.inr (.inl fun a => .if_icmp .eq a))))) rfl (fun _ => rfl)
theorem zdk_160 : zOkb 160 := zOkb_of (.inr (.inr (.inr (.inr (.inl fun a => .if_icmp .ne a))))) rfl (fun _ => rfl)
theorem zdk_161 : zOkb 161 := zOkb_of (.inr (.inr (.inr (.inr (.inl fun a => .if_icmp .lt a))))) rfl (fun _ => rfl)
theorem zdk_162 : zOkb 162 := zOkb_of (.inr (.inr (.inr (.inr (.inl fun a => .if_icmp .ge a))))) rfl (fun _ => rfl)
theorem zdk_163 : zOkb 163 := zOkb_of (.inr (.inr (.inr (.inr (.inl fun a => .if_icmp .gt a))))) rfl (fun _ => rfl)
theorem zdk_164 : zOkb 164 := zOkb_of (.inr (.inr (.inr (.inr (.inl fun a => .if_icmp .le a))))) rfl (fun _ => rfl)
theorem zdk_165 : zOkb 165 := zOkb_of (.inr (.inr (.inr (.inr (.inl fun a => .if_acmp .eq a))))) rfl (fun _ => rfl)
theorem zdk_166 : zOkb 166 := zOkb_of (.inr (.inr (.inr (.inr (.inl fun a => .if_acmp .ne a))))) rfl (fun _ => rfl)
theorem zdk_167 : zOkb 167 := zOkb_of (.inr (.inr (.inr (.inr (.inl fun a => .goto a))))) rfl (fun _ => rfl)
theorem zdk_172 : zOkb 172 := zOkb_of (.inl (.ireturn)) rfl (fun _ => rfl)
theorem zdk_173 : zOkb 173 := zOkb_of (.inl (.lreturn)) rfl (fun _ => rfl)
theorem zdk_176 : zOkb 176 := zOkb_of (.inl (.areturn)) rfl (fun _ => rfl)
theorem zdk_177 : zOkb 177 := zOkb_of (.inl (.return_)) rfl (fun _ => rfl)
theorem zdk_178 : zOkb 178 := zOkb_of (.inr (.inr (.inr (.inl fun a => .getstatic a)))) rfl (fun _ => rfl)
theorem zdk_179 : zOkb 179 := zOkb_of (.inr (.inr (.inr (.inl fun a => .putstatic a)))) rfl (fun _ => rfl)
theorem zdk_180 : zOkb 180 := zOkb_of (.inr (.inr (.inr (.inl fun a => .getfield a)))) rfl (fun _ => rfl)
theorem zdk_181 : zOkb 181 := zOkb_of (.inr (.inr (.inr (.inl fun a => .putfield a)))) rfl (fun _ => rfl)
theorem zdk_182 : zOkb 182 := zOkb_of (.inr (.inr (.inr (.inl fun a => .invokevirtual a)))) rfl (fun _ => rfl)
theorem zdk_183 : zOkb 183 := zOkb_of (.inr (.inr (.inr (.inl fun a => .invokespecial a)))) rfl (fun _ => rfl)
theorem zdk_184 : zOkb 184 := zOkb_of (.inr (.inr (.inr (.inl fun a => .invokestatic a)))) rfl (fun _ => rfl)
theorem zdk_187 : zOkb 187 := zOkb_of (.inr (.inr (.inr (.inl fun a => .new a)))) rfl (fun _ => rfl)
theorem zdk_189 : zOkb 189 := zOkb_of (.inr (.inr (.inr (.inl fun a => .anewarray a)))) rfl (fun _ => rfl)
theorem zdk_190 : zOkb 190 := zOkb_of (.inl (.arraylength)) rfl (fun _ => rfl)
theorem zdk_191 : zOkb 191 := zOkb_of (.inl (.athrow)) rfl (fun _ => rfl)
theorem zdk_192 : zOkb 192 := zOkb_of (.inr (.inr (.inr (.inl fun a => .checkcast a)))) rfl (fun _ => rfl)
theorem zdk_198 : zOkb 198 := zOkb_of (.inr (.inr (.inr (.inr (.inl fun a => .ifnull a))))) rfl (fun _ => rfl)
theorem zdk_199 : zOkb 199 := zOkb_of (.inr (.inr (.inr (.inr (.inl fun a => .ifnonnull a))))) rfl (fun _ => rfl)
noncomputable def zfB : List Nat := [0, 1, 2, 3, 4, 5, 6, 7, 8, 9, 10, 16, 17, 18, 19, 20, 21, 22, 25, 26, 27, 28, 29, 30, 31, 32, 33, 42, 43, 44, 45, 46, 47, 50, 51, 54, 55, 58, 59, 60, 61, 62, 63, 64, 65, 66, 75, 76, 77, 78, 79, 80, 83, 84, 87, 88, 89, 92, 96, 97, 100, 104, 105, 108, 109, 112, 120, 122, 124, 126, 128, 130, 132, 133, 136, 145, 148, 153, 154, 155, 156, 157, 158, 159, 160, 161, 162, 163, 164, 165, 166, 167, 172, 173, 176, 177, 178, 179, 180, 181, 182, 183, 184, 187, 189, 190, 191, 192, 198, 199]
theorem zOkb_all : ∀ b ∈ zfB, zOkb b := by
  intro b hb
  simp only [zfB, List.mem_cons, List.not_mem_nil, or_false] at hb
  rcases hb with rfl | rfl | rfl | rfl | rfl | rfl | rfl | rfl | rfl | rfl | rfl | rfl | rfl | rfl | rfl | rfl | rfl | rfl | rfl | rfl | rfl | rfl | rfl | rfl | rfl | rfl | rfl | rfl | rfl | rfl | rfl | rfl | rfl | rfl | rfl | rfl | rfl | rfl | rfl | rfl | rfl | rfl | rfl | rfl | rfl | rfl | rfl | rfl | rfl | rfl | rfl | rfl | rfl | rfl | rfl | rfl | rfl | rfl | rfl | rfl | rfl | rfl | rfl | rfl | rfl | rfl | rfl | rfl | rfl | rfl | rfl | rfl | rfl | rfl | rfl | rfl | rfl | rfl | rfl | rfl | rfl | rfl | rfl | rfl | rfl | rfl | rfl | rfl | rfl | rfl | rfl | rfl | rfl | rfl | rfl | rfl | rfl | rfl | rfl | rfl | rfl | rfl | rfl | rfl | rfl | rfl | rfl | rfl | rfl | rfl
  · exact zdk_0
  · exact zdk_1
  · exact zdk_2
  · exact zdk_3
  · exact zdk_4
  · exact zdk_5
  · exact zdk_6
  · exact zdk_7
  · exact zdk_8
  · exact zdk_9
  · exact zdk_10
  · exact zdk_16
  · exact zdk_17
  · exact zdk_18
  · exact zdk_19
  · exact zdk_20
  · exact zdk_21
  · exact zdk_22
  · exact zdk_25
  · exact zdk_26
  · exact zdk_27
  · exact zdk_28
  · exact zdk_29
  · exact zdk_30
  · exact zdk_31
  · exact zdk_32
  · exact zdk_33
  · exact zdk_42
  · exact zdk_43
  · exact zdk_44
  · exact zdk_45
  · exact zdk_46
  · exact zdk_47
  · exact zdk_50
  · exact zdk_51
  · exact zdk_54
  · exact zdk_55
  · exact zdk_58
  · exact zdk_59
  · exact zdk_60
  · exact zdk_61
  · exact zdk_62
  · exact zdk_63
  · exact zdk_64
  · exact zdk_65
  · exact zdk_66
  · exact zdk_75
  · exact zdk_76
  · exact zdk_77
  · exact zdk_78
  · exact zdk_79
  · exact zdk_80
  · exact zdk_83
  · exact zdk_84
  · exact zdk_87
  · exact zdk_88
  · exact zdk_89
  · exact zdk_92
  · exact zdk_96
  · exact zdk_97
  · exact zdk_100
  · exact zdk_104
  · exact zdk_105
  · exact zdk_108
  · exact zdk_109
  · exact zdk_112
  · exact zdk_120
  · exact zdk_122
  · exact zdk_124
  · exact zdk_126
  · exact zdk_128
  · exact zdk_130
  · exact zdk_132
  · exact zdk_133
  · exact zdk_136
  · exact zdk_145
  · exact zdk_148
  · exact zdk_153
  · exact zdk_154
  · exact zdk_155
  · exact zdk_156
  · exact zdk_157
  · exact zdk_158
  · exact zdk_159
  · exact zdk_160
  · exact zdk_161
  · exact zdk_162
  · exact zdk_163
  · exact zdk_164
  · exact zdk_165
  · exact zdk_166
  · exact zdk_167
  · exact zdk_172
  · exact zdk_173
  · exact zdk_176
  · exact zdk_177
  · exact zdk_178
  · exact zdk_179
  · exact zdk_180
  · exact zdk_181
  · exact zdk_182
  · exact zdk_183
  · exact zdk_184
  · exact zdk_187
  · exact zdk_189
  · exact zdk_190
  · exact zdk_191
  · exact zdk_192
  · exact zdk_198
  · exact zdk_199
theorem zfB_k : (List.range 256).all (fun b => zIso (zfk b) || zfB.contains b) = true := by decide +kernel
theorem zfk_ok {b : Nat} (hb : b < 256) (h : zIso (zfk b) = false) : zOkb b := by
  have k := List.all_eq_true.mp zfB_k b (List.mem_range.mpr hb)
  rw [h, Bool.false_or] at k
  exact zOkb_all b (List.contains_iff_mem.mp k)
theorem zrd_bind {α β : Type} {r : Decoder α} {F : α → Decoder β} {code : ByteArray} {p p' : Nat} {a : α} (h : r code p = .ok (a, p')) : (r >>= F) code p = F a code p' := by
  show Except.bind (r code p) (fun q => F q.1 code q.2) = _
  rw [h]
  rfl
theorem zrd_map {α β : Type} {r : Decoder α} {f : α → β} {code : ByteArray} {p p' : Nat} {a : α} (h : r code p = .ok (a, p')) : (f <$> r) code p = .ok (f a, p') := by
  show Except.bind (r code p) (fun q => Except.ok (f q.1, q.2)) = _
  rw [h]
  rfl
theorem zrd_u1 {code : ByteArray} {p : Nat} {x : UInt8} (h : code.data.toList[p]? = some x) : (Reader.u1 : Decoder Nat) code p = .ok (x.toNat, p + 1) := by
  obtain ⟨hp0, hx0⟩ := List.getElem?_eq_some_iff.mp h
  have hp : p < code.size := by
    have : code.size = code.data.size := rfl
    rw [this]
    simpa using hp0
  have hx : code[p]'hp = x := by
    rw [← hx0]
    rfl
  unfold Reader.u1
  show (if h : p < code.size then (do set (p + 1); pure (code[p]'h).toNat : Decoder Nat) else throw (HasTruncated.truncated p)) code p = _
  rw [dif_pos hp, ← hx]
  rfl
theorem zrd_u2 {code : ByteArray} {p : Nat} {x y : UInt8} (h : code.data.toList[p]? = some x) (h2 : code.data.toList[p + 1]? = some y) : (Reader.u2 : Decoder Nat) code p = .ok (x.toNat * 256 + y.toNat, p + 2) := by
  unfold Reader.u2
  rw [zrd_bind (zrd_u1 h), zrd_bind (zrd_u1 h2)]
  rfl
theorem zdec_of {code : ByteArray} {pc n : Nat} {i : Instr} (h : (Decoder.instr pc) code pc = .ok (i, pc + n)) : decode code pc = .ok (i, n) := by
  unfold decode
  show Except.bind ((Decoder.instr pc) code pc) (fun q => Except.ok (q.1, q.2 - pc)) = _
  rw [h]
  show Except.ok (i, pc + n - pc) = _
  rw [Nat.add_sub_cancel_left]
/-- the reader over the bytes that are left -/
noncomputable def zfde (code : ByteArray) (pc : Nat) (L : List UInt8) : Option (Instr × Nat) := match L with
  | [] => none
  | b :: r => match zfk b.toNat with
    | .inl i => some (i, 1)
    | .inr (.inl f) => (match r with | x :: _ => some (f x.toNat, 2) | _ => none)
    | .inr (.inr (.inl f)) => (match r with | x :: _ => some (f (Reader.signed 8 x.toNat), 2) | _ => none)
    | .inr (.inr (.inr (.inl f))) => (match r with | x :: y :: _ => some (f (x.toNat * 256 + y.toNat), 3) | _ => none)
    | .inr (.inr (.inr (.inr (.inl f)))) => (match r with | x :: y :: _ => some (f (Reader.signed 16 (x.toNat * 256 + y.toNat)), 3) | _ => none)
    | .inr (.inr (.inr (.inr (.inr true)))) => (match r with | x :: y :: _ => some (.iinc x.toNat (Reader.signed 8 y.toNat), 3) | _ => none)
    | .inr (.inr (.inr (.inr (.inr false)))) => (match decode code pc with | .ok q => some q | _ => none)
theorem zfd_ok {code : ByteArray} {pc : Nat} {L : List UInt8} {i : Instr} {n : Nat} (hL : code.data.toList.drop pc = L) (h : zfde code pc L = some (i, n)) : decode code pc = .ok (i, n) := by
  have hat : ∀ (k : Nat) (x : UInt8), L[k]? = some x → code.data.toList[pc + k]? = some x := fun k x hx => by rw [← List.getElem?_drop, hL]; exact hx
  match L, h, hat with
  | [], h, _ => cases h
  | b :: r, h, hat =>
    have h0 : (Reader.u1 : Decoder Nat) code pc = .ok (b.toNat, pc + 1) := zrd_u1 (hat 0 b rfl)
    have hk : zIso (zfk b.toNat) = false → (Decoder.instr pc) code pc = (zfr (zfk b.toNat)) code (pc + 1) := fun hi => by
      rw [zfct.2 pc, zrd_bind h0, zfk_ok (UInt8.toNat_lt b) hi pc]
    unfold zfde at h
    simp only at h
    generalize zfk b.toNat = K at h hk
    match K, h, hk with
    | .inl i, h, hk =>
      cases h
      exact zdec_of (by rw [hk rfl]; rfl)
    | .inr (.inl f), h, hk =>
      match r, h, hat with
      | x :: _, h, hat =>
        cases h
        exact zdec_of (by rw [hk rfl]; unfold zfr; simp only; rw [zrd_bind (zrd_u1 (hat 1 x rfl))]; rfl)
    | .inr (.inr (.inl f)), h, hk =>
      match r, h, hat with
      | x :: _, h, hat =>
        cases h
        exact zdec_of (by rw [hk rfl]; unfold zfr; simp only; rw [zrd_bind (r := Reader.s1) (zrd_map (zrd_u1 (hat 1 x rfl)))]; rfl)
    | .inr (.inr (.inr (.inl f))), h, hk =>
      match r, h, hat with
      | x :: y :: _, h, hat =>
        cases h
        exact zdec_of (by rw [hk rfl]; unfold zfr; simp only; rw [zrd_bind (zrd_u2 (hat 1 x rfl) (hat 2 y rfl))]; rfl)
    | .inr (.inr (.inr (.inr (.inl f)))), h, hk =>
      match r, h, hat with
      | x :: y :: _, h, hat =>
        cases h
        exact zdec_of (by rw [hk rfl]; unfold zfr; simp only; rw [zrd_bind (r := Reader.s2) (zrd_map (zrd_u2 (hat 1 x rfl) (hat 2 y rfl)))]; rfl)
    | .inr (.inr (.inr (.inr (.inr true)))), h, hk =>
      match r, h, hat with
      | x :: y :: _, h, hat =>
        cases h
        exact zdec_of (by rw [hk rfl]; unfold zfr; simp only; rw [zrd_bind (zrd_u1 (hat 1 x rfl)), zrd_bind (r := Reader.s1) (zrd_map (zrd_u1 (hat 2 y rfl)))]; rfl)
    | .inr (.inr (.inr (.inr (.inr false)))), h, _ =>
      simp only at h
      split at h
      · next q hq => cases h; exact hq
      · cases h
noncomputable def zfq (code : ByteArray) : Nat → List UInt8 → List (List Nat) → List zJ
  | _, _, [] => []
  | pc, L, w :: ws => match zfde code pc L with
    | some (i, n) => (pc, i, n, w) :: zfq code (pc + n) (L.drop n) ws
    | none => []
theorem zfq_mem {code : ByteArray} : ∀ {pc : Nat} {L : List UInt8} {ws : List (List Nat)}, code.data.toList.drop pc = L → ∀ q ∈ zfq code pc L ws, decode code q.1 = .ok (q.2.1, q.2.2.1)
  | _, _, [], _, q, hq => by cases hq
  | pc, L, w :: ws, hL, q, hq => by
    unfold zfq at hq
    split at hq
    · next i n e =>
      rcases List.mem_cons.mp hq with rfl | hq
      · exact zfd_ok hL e
      · exact zfq_mem (by rw [← hL, List.drop_drop]) q hq
    · cases hq
theorem zfq_dec {code : ByteArray} : ∀ {pc : Nat} {L : List UInt8} {ws : List (List Nat)}, code.data.toList.drop pc = L → (zfq code pc L ws).length = ws.length → z_dec code pc ws = zfq code pc L ws
  | _, _, [], _, _ => rfl
  | pc, L, w :: ws, hL, h => by
    unfold zfq at h ⊢
    unfold z_dec
    split at h
    · next i n e =>
      rw [zfd_ok hL e]
      simp only [e]
      rw [zfq_dec (L := L.drop n) (by rw [← hL, List.drop_drop]) (by simpa using h)]
    · simp at h
/-! the check of a row, its steps read already -/
noncomputable def z_ckBg (M : zMi) (g : Nat → Nat) (hs : List zHd) (i : zI) (q : zJ) (k : Nat) : Bool := match i.1 with
  | 50 => (match q.2.1 with | .ireturn => decide (q.2.2.1 = 1) | _ => false)
  | 51 => (match q.2.1 with | .lreturn => decide (q.2.2.1 = 1) && decide (M.2.2.2.2.1 = some .long) | _ => false)
  | 52 => (match q.2.1 with | .areturn => decide (q.2.2.1 = 1) && (match M.2.2.2.2.1 with | some (.object _) => true | some (.array _) => true | _ => false) | _ => false)
  | 53 => (match q.2.1 with | .return_ => decide (q.2.2.1 = 1) && decide (M.2.2.2.2.1 = none) | _ => false)
  | 62 => (match q.2.1, z_excs[i.2.1]?, z_ics[i.2.1]?, z_strs[i.2.2.1]? with
    | .new ik, some cls, some ic, some sq => decide (M.1 = RX11) && decide (hs = []) && decide (q.2.2.1 = 3) && z_w (.classLink M.1 ik cls) (q.2.2.2.getD 0 0) && z_w (.initialized cls) (q.2.2.2.getD 1 0) && decide (sq.1 = M.1) && decide (decode M.2.2.1 (q.1 + 3) = .ok (.dup, 1)) && ((decide (decode M.2.2.1 (q.1 + 4) = .ok (.ldc sq.2.1, 2)) && decide (decode M.2.2.1 (q.1 + 6) = .ok (.invokespecial ic, 3)) && decide (decode M.2.2.1 (q.1 + 9) = .ok (.athrow, 1))) || (decide (decode M.2.2.1 (q.1 + 4) = .ok (.ldc_w sq.2.1, 3)) && decide (decode M.2.2.1 (q.1 + 7) = .ok (.invokespecial ic, 3)) && decide (decode M.2.2.1 (q.1 + 10) = .ok (.athrow, 1))))
    | _, _, _, _ => false)
  | 54 => (match q.2.1, z_ms[i.2.1]? with
    | .invokevirtual idx, some M' => decide (q.2.2.1 = 3) && decide (g (k + 1) = q.1 + 3) && decide (M'.2.2.2.2.2 = []) && decide (M'.2.1.cls = M'.1) && decide ((vwCl[i.2.2.2.toNat]?).map (fun x => x.1) = some M'.1) && decide (0 ≤ i.2.2.2) && z_w (.methodLink M.1 idx M'.2.1) (q.2.2.2.getD 0 0) && z_w (.instanceMethod M'.2.1) (q.2.2.2.getD 1 0) && z_w (.selects M'.1 M'.2.1 M'.2.1) (q.2.2.2.getD 2 0) && z_w (.initialized M'.1) (q.2.2.2.getD 3 0) && z_w (.code M'.2.1 M'.2.2.1 M'.2.2.2.1 M'.2.2.2.2.1) (q.2.2.2.getD 4 0) && z_yok M'.2.1 i.2.2.1 && decide (M'.2.2.2.1 ≤ 41) && hs.all (fun x => decide (x.1 ≤ q.1) && decide (q.1 < x.2.1))
    | _, _ => false)
  | 55 => (match q.2.1, z_ms[i.2.1]? with
    | .invokestatic idx, some M' => decide (q.2.2.1 = 3) && decide (g (k + 1) = q.1 + 3) && decide (M'.2.2.2.2.2 = []) && decide (M'.2.1.cls = M'.1) && z_w (.methodLink M.1 idx M'.2.1) (q.2.2.2.getD 0 0) && z_w (.static M'.2.1) (q.2.2.2.getD 1 0) && z_w (.initialized M'.1) (q.2.2.2.getD 2 0) && z_w (.code M'.2.1 M'.2.2.1 M'.2.2.2.1 M'.2.2.2.2.1) (q.2.2.2.getD 3 0) && z_yok M'.2.1 i.2.2.1 && decide (M'.2.2.2.1 ≤ 41)
    | _, _ => false)
  | 72 => (match q.2.1, z_ms[i.2.1]? with
    | .invokestatic idx, some M' => decide (q.2.2.1 = 3) && decide (g (k + 1) = q.1 + 3) && !decide (M'.2.2.2.2.2 = []) && decide (M'.2.1.cls = M'.1) && z_w (.methodLink M.1 idx M'.2.1) (q.2.2.2.getD 0 0) && z_w (.static M'.2.1) (q.2.2.2.getD 1 0) && z_w (.initialized M'.1) (q.2.2.2.getD 2 0) && z_w (.codeWith M'.2.1 M'.2.2.1 M'.2.2.2.1 M'.2.2.2.2.1 M'.2.2.2.2.2) (q.2.2.2.getD 3 0) && z_yok M'.2.1 i.2.2.1 && decide (M'.2.2.2.1 ≤ 41)
    | _, _ => false)
  | 56 => (match q.2.1, z_ms[i.2.1]? with
    | .invokespecial idx, some M' => decide (q.2.2.1 = 3) && decide (g (k + 1) = q.1 + 3) && decide (M'.2.2.2.2.2 = []) && decide (M'.2.1.cls = M'.1) && decide (M'.2.1.name = "<init>") && decide (M'.2.2.2.2.1 = none) && z_w (.methodLink M.1 idx M'.2.1) (q.2.2.2.getD 0 0) && z_w (.instanceMethod M'.2.1) (q.2.2.2.getD 1 0) && z_w (.initialized M'.1) (q.2.2.2.getD 2 0) && z_w (.code M'.2.1 M'.2.2.1 M'.2.2.2.1 none) (q.2.2.2.getD 3 0) && z_yok M'.2.1 i.2.2.1 && decide (M'.2.2.2.1 ≤ 41)
    | _, _ => false)
  | 73 => (match q.2.1, z_ms[i.2.1]? with
    | .invokespecial idx, some M' => decide (q.2.2.1 = 3) && decide (g (k + 1) = q.1 + 3) && decide (M'.2.2.2.2.2 = []) && decide (M'.2.1.cls = M'.1) && decide (M'.2.1.name = "<init>") && decide (M'.2.2.2.2.1 = none) && decide (Cond.methodLinkNest M.1 idx M'.2.1 RX11 ∈ z_nest) && z_w (.instanceMethod M'.2.1) (q.2.2.2.getD 0 0) && z_w (.initialized M'.1) (q.2.2.2.getD 1 0) && z_w (.code M'.2.1 M'.2.2.1 M'.2.2.2.1 none) (q.2.2.2.getD 2 0) && z_yok M'.2.1 i.2.2.1 && decide (M'.2.2.2.1 ≤ 41)
    | _, _ => false)
  | o => (z_cks.getD o zk_no) M i.2.1 i.2.2.1 i.2.2.2 q.1 q.2.1 q.2.2.1 q.2.2.2 g k
theorem z_ckBg_eq {M : zMi} {is : List zJ} {hs : List zHd} {i : zI} {q : zJ} {k : Nat} : z_ckBg M (z_nxOf is) hs i q k = z_ckB M is hs i q k := rfl
/-- the tails of the steps from each 32nd on: a step is found among 32 -/
noncomputable def zchj : Nat → List zJ → List (List zJ)
  | 0, _ => []
  | n + 1, L => L :: zchj n (L.drop 32)
theorem zchj_at : ∀ (n k : Nat) (L X : List zJ), (zchj n L)[k]? = some X → X = L.drop (32 * k)
  | 0, _, _, _, h => by simp [zchj] at h
  | n + 1, 0, L, X, h => by
    simp only [zchj, List.getElem?_cons_zero, Option.some.injEq] at h
    rw [← h]
    rfl
  | n + 1, k + 1, L, X, h => by
    simp only [zchj, List.getElem?_cons_succ] at h
    rw [zchj_at n k _ X h, List.drop_drop]
    congr 1
    omega
noncomputable def zgt (is : List zJ) (T : List (List zJ)) (a : Nat) : Nat := match T[a / 32]? with
  | some L => (match L[a % 32]? with | some q => q.1 | none => 0)
  | none => z_nxOf is a
theorem zgt_eq (is : List zJ) (n a : Nat) : zgt is (zchj n is) a = z_nxOf is a := by
  unfold zgt
  split
  · next L e =>
    rw [zchj_at n _ is L e, List.getElem?_drop, show 32 * (a / 32) + a % 32 = a by omega]
    unfold z_nxOf
    cases is[a]? <;> rfl
  · rfl
noncomputable def zgx (is : List zJ) (T : List (List zJ)) (k : Nat) (qs : List zJ) : Nat → Nat := fun j => match Nat.beq j (k + 1), qs with
  | true, q :: _ => q.1
  | _, _ => zgt is T j
theorem zgx_eq {is : List zJ} {n k : Nat} {qs rs : List zJ} (h : is.drop (k + 1) = qs ++ rs) : zgx is (zchj n is) k qs = z_nxOf is := funext fun j => by
  unfold zgx
  split
  · next q r e =>
    have e2 : j = k + 1 := Nat.eq_of_beq_eq_true e
    subst e2
    unfold z_nxOf
    have e3 : is[k + 1]? = some q := by
      have := List.getElem?_drop (xs := is) (i := k + 1) (j := 0)
      rw [h] at this
      exact this.symm
    rw [e3]
    rfl
  · exact zgt_eq is n j
/-! calls and fields by numbers -/
theorem z_ckBg54 {M : zMi} {g : Nat → Nat} {hs : List zHd} {i : zI} {q : zJ} {k : Nat} (h : i.1 = 54) : z_ckBg M g hs i q k = (match q.2.1, z_ms[i.2.1]? with
    | .invokevirtual idx, some M' => decide (q.2.2.1 = 3) && decide (g (k + 1) = q.1 + 3) && decide (M'.2.2.2.2.2 = []) && decide (M'.2.1.cls = M'.1) && decide ((vwCl[i.2.2.2.toNat]?).map (fun x => x.1) = some M'.1) && decide (0 ≤ i.2.2.2) && z_w (.methodLink M.1 idx M'.2.1) (q.2.2.2.getD 0 0) && z_w (.instanceMethod M'.2.1) (q.2.2.2.getD 1 0) && z_w (.selects M'.1 M'.2.1 M'.2.1) (q.2.2.2.getD 2 0) && z_w (.initialized M'.1) (q.2.2.2.getD 3 0) && z_w (.code M'.2.1 M'.2.2.1 M'.2.2.2.1 M'.2.2.2.2.1) (q.2.2.2.getD 4 0) && z_yok M'.2.1 i.2.2.1 && decide (M'.2.2.2.1 ≤ 41) && hs.all (fun x => decide (x.1 ≤ q.1) && decide (q.1 < x.2.1))
    | _, _ => false) := by
  unfold z_ckBg
  rw [h]
  all_goals rfl
theorem z_ckBg55 {M : zMi} {g : Nat → Nat} {hs : List zHd} {i : zI} {q : zJ} {k : Nat} (h : i.1 = 55) : z_ckBg M g hs i q k = (match q.2.1, z_ms[i.2.1]? with
    | .invokestatic idx, some M' => decide (q.2.2.1 = 3) && decide (g (k + 1) = q.1 + 3) && decide (M'.2.2.2.2.2 = []) && decide (M'.2.1.cls = M'.1) && z_w (.methodLink M.1 idx M'.2.1) (q.2.2.2.getD 0 0) && z_w (.static M'.2.1) (q.2.2.2.getD 1 0) && z_w (.initialized M'.1) (q.2.2.2.getD 2 0) && z_w (.code M'.2.1 M'.2.2.1 M'.2.2.2.1 M'.2.2.2.2.1) (q.2.2.2.getD 3 0) && z_yok M'.2.1 i.2.2.1 && decide (M'.2.2.2.1 ≤ 41)
    | _, _ => false) := by
  unfold z_ckBg
  rw [h]
  all_goals rfl
theorem z_ckBg72 {M : zMi} {g : Nat → Nat} {hs : List zHd} {i : zI} {q : zJ} {k : Nat} (h : i.1 = 72) : z_ckBg M g hs i q k = (match q.2.1, z_ms[i.2.1]? with
    | .invokestatic idx, some M' => decide (q.2.2.1 = 3) && decide (g (k + 1) = q.1 + 3) && !decide (M'.2.2.2.2.2 = []) && decide (M'.2.1.cls = M'.1) && z_w (.methodLink M.1 idx M'.2.1) (q.2.2.2.getD 0 0) && z_w (.static M'.2.1) (q.2.2.2.getD 1 0) && z_w (.initialized M'.1) (q.2.2.2.getD 2 0) && z_w (.codeWith M'.2.1 M'.2.2.1 M'.2.2.2.1 M'.2.2.2.2.1 M'.2.2.2.2.2) (q.2.2.2.getD 3 0) && z_yok M'.2.1 i.2.2.1 && decide (M'.2.2.2.1 ≤ 41)
    | _, _ => false) := by
  unfold z_ckBg
  rw [h]
  all_goals rfl
theorem z_ckBg37 {M : zMi} {g : Nat → Nat} {hs : List zHd} {i : zI} {q : zJ} {k : Nat} (h : i.1 = 37) : z_ckBg M g hs i q k = zk_get M i.2.1 i.2.2.1 i.2.2.2 q.1 q.2.1 q.2.2.1 q.2.2.2 g k := by
  unfold z_ckBg
  rw [h]
  all_goals rfl
theorem z_ckBg38 {M : zMi} {g : Nat → Nat} {hs : List zHd} {i : zI} {q : zJ} {k : Nat} (h : i.1 = 38) : z_ckBg M g hs i q k = zk_put M i.2.1 i.2.2.1 i.2.2.2 q.1 q.2.1 q.2.2.1 q.2.2.2 g k := by
  unfold z_ckBg
  rw [h]
  all_goals rfl
noncomputable def zfast (c : Nat) (M : zMi) (g : Nat → Nat) (hs : List zHd) (i : zI) (q : zJ) (k : Nat) : Bool := match i.1 with
  | 37 => (match q.2.1 with
    | .getfield idx => Nat.beq q.2.2.1 3 && Nat.beq (g (k + 1)) (q.1 + 3) && zffi zg7G (q.2.2.2.getD 0 0 / 32) [c, idx, i.2.1, i.2.2.1, q.2.2.2.getD 0 0]
    | _ => false)
  | 38 => (match q.2.1 with
    | .putfield idx => Nat.beq q.2.2.1 3 && Nat.beq (g (k + 1)) (q.1 + 3) && decide (0 ≤ i.2.2.2) && zffi zg8G (q.2.2.2.getD 0 0 / 32) [c, idx, i.2.1, i.2.2.1, q.2.2.2.getD 0 0, i.2.2.2.toNat]
    | _ => false)
  | 54 => (match q.2.1 with
    | .invokevirtual idx => Nat.beq q.2.2.1 3 && Nat.beq (g (k + 1)) (q.1 + 3) && decide (0 ≤ i.2.2.2) && zffi zgMG (q.2.2.2.getD 0 0 / 32) [c, idx, i.2.1, q.2.2.2.getD 0 0] && zffi zg4G (i.2.1 / 16) [i.2.1, i.2.2.1, i.2.2.2.toNat, q.2.2.2.getD 1 0, q.2.2.2.getD 2 0, q.2.2.2.getD 3 0, q.2.2.2.getD 4 0] && hs.all (fun x => decide (x.1 ≤ q.1) && decide (q.1 < x.2.1))
    | _ => false)
  | 55 => (match q.2.1 with
    | .invokestatic idx => Nat.beq q.2.2.1 3 && Nat.beq (g (k + 1)) (q.1 + 3) && zffi zgMG (q.2.2.2.getD 0 0 / 32) [c, idx, i.2.1, q.2.2.2.getD 0 0] && zffi zg5G (i.2.1 / 16) [i.2.1, i.2.2.1, q.2.2.2.getD 1 0, q.2.2.2.getD 2 0, q.2.2.2.getD 3 0]
    | _ => false)
  | 72 => (match q.2.1 with
    | .invokestatic idx => Nat.beq q.2.2.1 3 && Nat.beq (g (k + 1)) (q.1 + 3) && zffi zgMG (q.2.2.2.getD 0 0 / 32) [c, idx, i.2.1, q.2.2.2.getD 0 0] && zffi zg2G (i.2.1 / 16) [i.2.1, i.2.2.1, q.2.2.2.getD 1 0, q.2.2.2.getD 2 0, q.2.2.2.getD 3 0]
    | _ => false)
  | _ => false
theorem zfast_ok {c : Nat} {M : zMi} {g : Nat → Nat} {hs : List zHd} {i : zI} {q : zJ} {k : Nat} (hc : M.1 = zfcn c) (h : zfast c M g hs i q k = true) : z_ckBg M g hs i q k = true := by
  unfold zfast at h
  split at h
  · next e =>
    split at h
    case h_2 => cases h
    next idx e2 =>
    simp only [Bool.and_eq_true] at h
    obtain ⟨⟨h1, h2⟩, h3⟩ := h
    obtain ⟨q9, e9, h4, h5⟩ := (show zP37e _ from zffi_ok zg7A h3)
    rw [z_ckBg37 e]
    unfold zk_get
    simp only [e2, e9, Bool.and_eq_true, decide_eq_true_eq]
    exact ⟨⟨Nat.eq_of_beq_eq_true h1, Nat.eq_of_beq_eq_true h2⟩, h4, by rw [hc]; exact h5⟩
  · next e =>
    split at h
    case h_2 => cases h
    next idx e2 =>
    simp only [Bool.and_eq_true, decide_eq_true_eq] at h
    obtain ⟨⟨⟨h1, h2⟩, h0⟩, h3⟩ := h
    obtain ⟨q9, e9, h4, h5, h6, h7⟩ := (show zP38e _ from zffi_ok zg8A h3)
    rw [Int.toNat_of_nonneg h0] at h6
    rw [z_ckBg38 e]
    unfold zk_put
    simp only [e2, e9, Bool.and_eq_true, decide_eq_true_eq]
    exact ⟨⟨Nat.eq_of_beq_eq_true h1, Nat.eq_of_beq_eq_true h2⟩, ⟨⟨h4, by rw [hc]; exact h5⟩, h6⟩, by rw [h7]; rfl⟩
  · next e =>
    split at h
    case h_2 => cases h
    next idx e2 =>
    simp only [Bool.and_eq_true, decide_eq_true_eq] at h
    obtain ⟨⟨⟨⟨⟨h1, h2⟩, h0⟩, h3⟩, h4⟩, h5⟩ := h
    have hM := (show zPM _ _ _ _ from zffi_ok zgMA h3)
    obtain ⟨M', m0, m1, m2, m3, m4, m5, m6, m7, m8, m9⟩ := (show zP54e _ from zffi_ok zg4A h4)
    rw [z_ckBg54 e]
    simp only [e2, m0, Bool.and_eq_true, decide_eq_true_eq]
    exact ⟨⟨⟨⟨⟨⟨⟨⟨⟨⟨⟨⟨⟨Nat.eq_of_beq_eq_true h1, Nat.eq_of_beq_eq_true h2⟩, m1⟩, m2⟩, m3⟩, h0⟩, by rw [hc]; exact hM M' m0⟩, m4⟩, m5⟩, m6⟩, m7⟩, m8⟩, m9⟩, h5⟩
  · next e =>
    split at h
    case h_2 => cases h
    next idx e2 =>
    simp only [Bool.and_eq_true] at h
    obtain ⟨⟨⟨h1, h2⟩, h3⟩, h4⟩ := h
    have hM := (show zPM _ _ _ _ from zffi_ok zgMA h3)
    obtain ⟨M', m0, m1, m2, m4, m6, m7, m8, m9⟩ := (show zP55e _ from zffi_ok zg5A h4)
    rw [z_ckBg55 e]
    simp only [e2, m0, Bool.and_eq_true, decide_eq_true_eq]
    exact ⟨⟨⟨⟨⟨⟨⟨⟨⟨Nat.eq_of_beq_eq_true h1, Nat.eq_of_beq_eq_true h2⟩, m1⟩, m2⟩, by rw [hc]; exact hM M' m0⟩, m4⟩, m6⟩, m7⟩, m8⟩, m9⟩
  · next e =>
    split at h
    case h_2 => cases h
    next idx e2 =>
    simp only [Bool.and_eq_true] at h
    obtain ⟨⟨⟨h1, h2⟩, h3⟩, h4⟩ := h
    have hM := (show zPM _ _ _ _ from zffi_ok zgMA h3)
    obtain ⟨M', m0, m1, m2, m4, m6, m7, m8, m9⟩ := (show zP72e _ from zffi_ok zg2A h4)
    rw [z_ckBg72 e]
    simp only [e2, m0, Bool.and_eq_true, decide_eq_true_eq]
    exact ⟨⟨⟨⟨⟨⟨⟨⟨⟨Nat.eq_of_beq_eq_true h1, Nat.eq_of_beq_eq_true h2⟩, by rw [decide_eq_false m1]; rfl⟩, m2⟩, by rw [hc]; exact hM M' m0⟩, m4⟩, m6⟩, m7⟩, m8⟩, m9⟩
  · cases h
theorem zfastB {c : Nat} {M : zMi} {g : Nat → Nat} {hs : List zHd} {i : zI} {q : zJ} {k : Nat} (hc : M.1 = zfcn c) (h : (zfast c M g hs i q k || z_ckBg M g hs i q k) = true) : z_ckBg M g hs i q k = true := by
  rw [Bool.or_eq_true] at h
  exact h.elim (zfast_ok hc) id
noncomputable def z_ckLg (c : Nat) (M : zMi) (is : List zJ) (T : List (List zJ)) (hs : List zHd) : Nat → List zI → List zJ → Bool
  | _, [], [] => true
  | k, i :: cs, q :: qs => (Nat.beq i.1 99 || (zfast c M (zgx is T k qs) hs i q k || z_ckBg M (zgx is T k qs) hs i q k)) && z_ckLg c M is T hs (k + 1) cs qs
  | _, _, _ => false
theorem z_ckLg_ok {c : Nat} {M : zMi} {is : List zJ} {n : Nat} {hs : List zHd} (hc : M.1 = zfcn c) (hd : ∀ q ∈ is, decode M.2.2.1 q.1 = .ok (q.2.1, q.2.2.1)) : ∀ (k : Nat) (cs : List zI) (qs rs : List zJ), is.drop k = qs ++ rs → z_ckLg c M is (zchj n is) hs k cs qs = true → z_ckL M is hs k cs qs = true
  | _, [], [], _, _, _ => rfl
  | _, [], _ :: _, _, _, h => by cases h
  | _, _ :: _, [], _, _, h => by cases h
  | k, i :: cs, q :: qs, rs, hq, h => by
    have hn : is.drop (k + 1) = qs ++ rs := by
      rw [← List.drop_drop, hq]
      rfl
    rw [z_ckLg, Bool.and_eq_true] at h
    rw [z_ckL, Bool.and_eq_true]
    refine ⟨?_, z_ckLg_ok hc hd (k + 1) cs qs rs hn h.2⟩
    have h1 := h.1
    unfold z_ckA
    rw [Bool.or_eq_true] at h1 ⊢
    rcases h1 with h1 | h1
    · exact Or.inl (decide_eq_true (Nat.eq_of_beq_eq_true h1))
    · have h1 := zfastB hc h1
      rw [zgx_eq hn, z_ckBg_eq] at h1
      refine Or.inr ?_
      rw [Bool.and_eq_true]
      exact ⟨decide_eq_true (hd q (List.mem_of_mem_drop (by rw [hq]; exact List.mem_cons_self))), h1⟩
noncomputable def z_ckN (c : Nat) (M : zMi) (cs : List zI) (is : List zJ) (hs : List zHd) : Bool := decide (z_nxOf is 0 = 0) && decide (M.2.2.2.2.2 = hs.map (fun x => (x.1, x.2.1, x.2.2.1, x.2.2.2.1))) && hs.all (z_ckH M is) && z_ckLg c M is (zchj 40 is) hs 0 cs is
noncomputable def z_ckF (c : Nat) (M : zMi) (cs : List zI) (ws : List (List Nat)) (hs : List zHd) : Bool := (fun is => Nat.beq is.length ws.length && z_ckN c M cs is hs) (zfq M.2.2.1 0 M.2.2.1.data.toList ws)
theorem z_ckF_ok {c : Nat} {M : zMi} {code : ByteArray} {cs : List zI} {ws : List (List Nat)} {hs : List zHd} (hn : M.1 = zfcn c) (hy : M.2.1.cls = M.1) (hp : plainFor M.2.1 = true) (hc : M.2.2.1 = code) (h : z_ckF c M cs ws hs = true) : z_ckM M cs (z_dec code 0 ws) hs = true := by
  subst hc
  unfold z_ckF at h
  simp only [Bool.and_eq_true] at h
  obtain ⟨h1, h⟩ := h
  rw [zfq_dec List.drop_zero (Nat.eq_of_beq_eq_true h1)]
  unfold z_ckN at h
  unfold z_ckM
  simp only [Bool.and_eq_true] at h ⊢
  obtain ⟨⟨⟨h2, h3⟩, h4⟩, h5⟩ := h
  exact ⟨⟨⟨⟨⟨decide_eq_true hy, hp⟩, h2⟩, h3⟩, h4⟩, z_ckLg_ok hn (zfq_mem List.drop_zero) 0 cs _ [] (by rw [List.append_nil]; rfl) h5⟩
/-- a piece of a row -/
noncomputable def z_ckP (c : Nat) (M : zMi) (cs : List zI) (ws : List (List Nat)) (hs : List zHd) (a n : Nat) : Bool := (fun is => Nat.beq is.length ws.length && z_ckLg c M is (zchj 40 is) hs a ((cs.drop a).take n) ((is.drop a).take n)) (zfq M.2.2.1 0 M.2.2.1.data.toList ws)
theorem z_ckP_ok {c : Nat} {M : zMi} {code : ByteArray} {cs : List zI} {ws : List (List Nat)} {hs : List zHd} {a n : Nat} (hn : M.1 = zfcn c) (hc : M.2.2.1 = code) (h : z_ckP c M cs ws hs a n = true) : z_ckL M (z_dec code 0 ws) hs a ((cs.drop a).take n) (((z_dec code 0 ws).drop a).take n) = true := by
  subst hc
  unfold z_ckP at h
  simp only [Bool.and_eq_true] at h
  obtain ⟨h1, h⟩ := h
  rw [zfq_dec List.drop_zero (Nat.eq_of_beq_eq_true h1)]
  exact z_ckLg_ok hn (zfq_mem List.drop_zero) a _ _ _ (List.take_append_drop n _).symm h
noncomputable def z_ckE (c : Nat) (M : zMi) (cs : List zI) (ws : List (List Nat)) (hs : List zHd) (a : Nat) : Bool := (fun is => Nat.beq is.length ws.length && z_ckLg c M is (zchj 40 is) hs a (cs.drop a) (is.drop a)) (zfq M.2.2.1 0 M.2.2.1.data.toList ws)
theorem z_ckE_ok {c : Nat} {M : zMi} {code : ByteArray} {cs : List zI} {ws : List (List Nat)} {hs : List zHd} {a : Nat} (hn : M.1 = zfcn c) (hc : M.2.2.1 = code) (h : z_ckE c M cs ws hs a = true) : z_ckL M (z_dec code 0 ws) hs a (cs.drop a) ((z_dec code 0 ws).drop a) = true := by
  subst hc
  unfold z_ckE at h
  simp only [Bool.and_eq_true] at h
  obtain ⟨h1, h⟩ := h
  rw [zfq_dec List.drop_zero (Nat.eq_of_beq_eq_true h1)]
  exact z_ckLg_ok hn (zfq_mem List.drop_zero) a _ _ [] (by rw [List.append_nil]) h
