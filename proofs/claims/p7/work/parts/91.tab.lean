/-! the tables are right: the next methods -/
theorem zq9_43 : z_ckq [(z_m43, z_c43, z_i43, z_h43), (z_m44, z_c44, z_i44, z_h44), (z_m45, z_c45, z_i45, z_h45), (z_m46, z_c46, z_i46, z_h46), (z_m47, z_c47, z_i47, z_h47), (z_m48, z_c48, z_i48, z_h48), (z_m49, z_c49, z_i49, z_h49), (z_m50, z_c50, z_i50, z_h50)] = true := by decide +kernel
theorem zt_43 : z_ckM z_m43 z_c43 z_i43 z_h43 = true := z_ckq_at (k := 0) zq9_43 rfl
theorem zt_44 : z_ckM z_m44 z_c44 z_i44 z_h44 = true := z_ckq_at (k := 1) zq9_43 rfl
theorem zt_45 : z_ckM z_m45 z_c45 z_i45 z_h45 = true := z_ckq_at (k := 2) zq9_43 rfl
theorem zt_46 : z_ckM z_m46 z_c46 z_i46 z_h46 = true := z_ckq_at (k := 3) zq9_43 rfl
theorem zt_47 : z_ckM z_m47 z_c47 z_i47 z_h47 = true := z_ckq_at (k := 4) zq9_43 rfl
theorem zt_48 : z_ckM z_m48 z_c48 z_i48 z_h48 = true := z_ckq_at (k := 5) zq9_43 rfl
theorem zt_49 : z_ckM z_m49 z_c49 z_i49 z_h49 = true := z_ckq_at (k := 6) zq9_43 rfl
theorem zt_50 : z_ckM z_m50 z_c50 z_i50 z_h50 = true := z_ckq_at (k := 7) zq9_43 rfl
theorem zq9_51 : z_ckq [(z_m51, z_c51, z_i51, z_h51), (z_m52, z_c52, z_i52, z_h52), (z_m53, z_c53, z_i53, z_h53), (z_m54, z_c54, z_i54, z_h54), (z_m55, z_c55, z_i55, z_h55), (z_m56, z_c56, z_i56, z_h56), (z_m57, z_c57, z_i57, z_h57), (z_m58, z_c58, z_i58, z_h58)] = true := by decide +kernel
theorem zt_51 : z_ckM z_m51 z_c51 z_i51 z_h51 = true := z_ckq_at (k := 0) zq9_51 rfl
theorem zt_52 : z_ckM z_m52 z_c52 z_i52 z_h52 = true := z_ckq_at (k := 1) zq9_51 rfl
theorem zt_53 : z_ckM z_m53 z_c53 z_i53 z_h53 = true := z_ckq_at (k := 2) zq9_51 rfl
theorem zt_54 : z_ckM z_m54 z_c54 z_i54 z_h54 = true := z_ckq_at (k := 3) zq9_51 rfl
theorem zt_55 : z_ckM z_m55 z_c55 z_i55 z_h55 = true := z_ckq_at (k := 4) zq9_51 rfl
theorem zt_56 : z_ckM z_m56 z_c56 z_i56 z_h56 = true := z_ckq_at (k := 5) zq9_51 rfl
theorem zt_57 : z_ckM z_m57 z_c57 z_i57 z_h57 = true := z_ckq_at (k := 6) zq9_51 rfl
theorem zt_58 : z_ckM z_m58 z_c58 z_i58 z_h58 = true := z_ckq_at (k := 7) zq9_51 rfl
theorem zq9_59 : z_ckq [(z_m59, z_c59, z_i59, z_h59), (z_m60, z_c60, z_i60, z_h60), (z_m61, z_c61, z_i61, z_h61), (z_m62, z_c62, z_i62, z_h62), (z_m63, z_c63, z_i63, z_h63), (z_m64, z_c64, z_i64, z_h64), (z_m65, z_c65, z_i65, z_h65), (z_m66, z_c66, z_i66, z_h66)] = true := by decide +kernel
theorem zt_59 : z_ckM z_m59 z_c59 z_i59 z_h59 = true := z_ckq_at (k := 0) zq9_59 rfl
theorem zt_60 : z_ckM z_m60 z_c60 z_i60 z_h60 = true := z_ckq_at (k := 1) zq9_59 rfl
theorem zt_61 : z_ckM z_m61 z_c61 z_i61 z_h61 = true := z_ckq_at (k := 2) zq9_59 rfl
theorem zt_62 : z_ckM z_m62 z_c62 z_i62 z_h62 = true := z_ckq_at (k := 3) zq9_59 rfl
theorem zt_63 : z_ckM z_m63 z_c63 z_i63 z_h63 = true := z_ckq_at (k := 4) zq9_59 rfl
theorem zt_64 : z_ckM z_m64 z_c64 z_i64 z_h64 = true := z_ckq_at (k := 5) zq9_59 rfl
theorem zt_65 : z_ckM z_m65 z_c65 z_i65 z_h65 = true := z_ckq_at (k := 6) zq9_59 rfl
theorem zt_66 : z_ckM z_m66 z_c66 z_i66 z_h66 = true := z_ckq_at (k := 7) zq9_59 rfl
theorem zq9_67 : z_ckq [(z_m67, z_c67, z_i67, z_h67), (z_m68, z_c68, z_i68, z_h68), (z_m69, z_c69, z_i69, z_h69), (z_m70, z_c70, z_i70, z_h70), (z_m71, z_c71, z_i71, z_h71), (z_m72, z_c72, z_i72, z_h72), (z_m73, z_c73, z_i73, z_h73), (z_m74, z_c74, z_i74, z_h74)] = true := by decide +kernel
theorem zt_67 : z_ckM z_m67 z_c67 z_i67 z_h67 = true := z_ckq_at (k := 0) zq9_67 rfl
theorem zt_68 : z_ckM z_m68 z_c68 z_i68 z_h68 = true := z_ckq_at (k := 1) zq9_67 rfl
theorem zt_69 : z_ckM z_m69 z_c69 z_i69 z_h69 = true := z_ckq_at (k := 2) zq9_67 rfl
theorem zt_70 : z_ckM z_m70 z_c70 z_i70 z_h70 = true := z_ckq_at (k := 3) zq9_67 rfl
theorem zt_71 : z_ckM z_m71 z_c71 z_i71 z_h71 = true := z_ckq_at (k := 4) zq9_67 rfl
theorem zt_72 : z_ckM z_m72 z_c72 z_i72 z_h72 = true := z_ckq_at (k := 5) zq9_67 rfl
theorem zt_73 : z_ckM z_m73 z_c73 z_i73 z_h73 = true := z_ckq_at (k := 6) zq9_67 rfl
theorem zt_74 : z_ckM z_m74 z_c74 z_i74 z_h74 = true := z_ckq_at (k := 7) zq9_67 rfl
theorem zq9_75 : z_ckq [(z_m75, z_c75, z_i75, z_h75), (z_m76, z_c76, z_i76, z_h76), (z_m77, z_c77, z_i77, z_h77), (z_m78, z_c78, z_i78, z_h78), (z_m79, z_c79, z_i79, z_h79), (z_m80, z_c80, z_i80, z_h80), (z_m81, z_c81, z_i81, z_h81), (z_m82, z_c82, z_i82, z_h82)] = true := by decide +kernel
theorem zt_75 : z_ckM z_m75 z_c75 z_i75 z_h75 = true := z_ckq_at (k := 0) zq9_75 rfl
theorem zt_76 : z_ckM z_m76 z_c76 z_i76 z_h76 = true := z_ckq_at (k := 1) zq9_75 rfl
theorem zt_77 : z_ckM z_m77 z_c77 z_i77 z_h77 = true := z_ckq_at (k := 2) zq9_75 rfl
theorem zt_78 : z_ckM z_m78 z_c78 z_i78 z_h78 = true := z_ckq_at (k := 3) zq9_75 rfl
theorem zt_79 : z_ckM z_m79 z_c79 z_i79 z_h79 = true := z_ckq_at (k := 4) zq9_75 rfl
theorem zt_80 : z_ckM z_m80 z_c80 z_i80 z_h80 = true := z_ckq_at (k := 5) zq9_75 rfl
theorem zt_81 : z_ckM z_m81 z_c81 z_i81 z_h81 = true := z_ckq_at (k := 6) zq9_75 rfl
theorem zt_82 : z_ckM z_m82 z_c82 z_i82 z_h82 = true := z_ckq_at (k := 7) zq9_75 rfl
theorem zq9_83 : z_ckq [(z_m83, z_c83, z_i83, z_h83), (z_m84, z_c84, z_i84, z_h84), (z_m85, z_c85, z_i85, z_h85)] = true := by decide +kernel
theorem zt_83 : z_ckM z_m83 z_c83 z_i83 z_h83 = true := z_ckq_at (k := 0) zq9_83 rfl
theorem zt_84 : z_ckM z_m84 z_c84 z_i84 z_h84 = true := z_ckq_at (k := 1) zq9_83 rfl
theorem zt_85 : z_ckM z_m85 z_c85 z_i85 z_h85 = true := z_ckq_at (k := 2) zq9_83 rfl
theorem zt_g1 : z_ck4 z_ms_1 z_cs_1 z_is_1 z_hs_1 := ⟨zt_43, zt_44, zt_45, zt_46, zt_47, zt_48, zt_49, zt_50, zt_51, zt_52, zt_53, zt_54, zt_55, zt_56, zt_57, zt_58, zt_59, zt_60, zt_61, zt_62, zt_63, zt_64, zt_65, zt_66, zt_67, zt_68, zt_69, zt_70, zt_71, zt_72, zt_73, zt_74, zt_75, zt_76, zt_77, zt_78, zt_79, zt_80, zt_81, zt_82, zt_83, zt_84, zt_85, trivial⟩
