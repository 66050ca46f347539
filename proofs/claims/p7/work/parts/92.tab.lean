/-! the tables are right: the next methods -/
theorem zq9_86 : z_ckq [(z_m86, z_c86, z_i86, z_h86), (z_m87, z_c87, z_i87, z_h87), (z_m88, z_c88, z_i88, z_h88), (z_m89, z_c89, z_i89, z_h89), (z_m90, z_c90, z_i90, z_h90), (z_m91, z_c91, z_i91, z_h91), (z_m92, z_c92, z_i92, z_h92), (z_m93, z_c93, z_i93, z_h93)] = true := by decide +kernel
theorem zt_86 : z_ckM z_m86 z_c86 z_i86 z_h86 = true := z_ckq_at (k := 0) zq9_86 rfl
theorem zt_87 : z_ckM z_m87 z_c87 z_i87 z_h87 = true := z_ckq_at (k := 1) zq9_86 rfl
theorem zt_88 : z_ckM z_m88 z_c88 z_i88 z_h88 = true := z_ckq_at (k := 2) zq9_86 rfl
theorem zt_89 : z_ckM z_m89 z_c89 z_i89 z_h89 = true := z_ckq_at (k := 3) zq9_86 rfl
theorem zt_90 : z_ckM z_m90 z_c90 z_i90 z_h90 = true := z_ckq_at (k := 4) zq9_86 rfl
theorem zt_91 : z_ckM z_m91 z_c91 z_i91 z_h91 = true := z_ckq_at (k := 5) zq9_86 rfl
theorem zt_92 : z_ckM z_m92 z_c92 z_i92 z_h92 = true := z_ckq_at (k := 6) zq9_86 rfl
theorem zt_93 : z_ckM z_m93 z_c93 z_i93 z_h93 = true := z_ckq_at (k := 7) zq9_86 rfl
theorem zq9_94 : z_ckq [(z_m94, z_c94, z_i94, z_h94), (z_m95, z_c95, z_i95, z_h95), (z_m96, z_c96, z_i96, z_h96), (z_m97, z_c97, z_i97, z_h97), (z_m98, z_c98, z_i98, z_h98), (z_m99, z_c99, z_i99, z_h99), (z_m100, z_c100, z_i100, z_h100), (z_m101, z_c101, z_i101, z_h101)] = true := by decide +kernel
theorem zt_94 : z_ckM z_m94 z_c94 z_i94 z_h94 = true := z_ckq_at (k := 0) zq9_94 rfl
theorem zt_95 : z_ckM z_m95 z_c95 z_i95 z_h95 = true := z_ckq_at (k := 1) zq9_94 rfl
theorem zt_96 : z_ckM z_m96 z_c96 z_i96 z_h96 = true := z_ckq_at (k := 2) zq9_94 rfl
theorem zt_97 : z_ckM z_m97 z_c97 z_i97 z_h97 = true := z_ckq_at (k := 3) zq9_94 rfl
theorem zt_98 : z_ckM z_m98 z_c98 z_i98 z_h98 = true := z_ckq_at (k := 4) zq9_94 rfl
theorem zt_99 : z_ckM z_m99 z_c99 z_i99 z_h99 = true := z_ckq_at (k := 5) zq9_94 rfl
theorem zt_100 : z_ckM z_m100 z_c100 z_i100 z_h100 = true := z_ckq_at (k := 6) zq9_94 rfl
theorem zt_101 : z_ckM z_m101 z_c101 z_i101 z_h101 = true := z_ckq_at (k := 7) zq9_94 rfl
theorem zq9_102 : z_ckq [(z_m102, z_c102, z_i102, z_h102), (z_m103, z_c103, z_i103, z_h103), (z_m104, z_c104, z_i104, z_h104), (z_m105, z_c105, z_i105, z_h105), (z_m106, z_c106, z_i106, z_h106), (z_m107, z_c107, z_i107, z_h107), (z_m108, z_c108, z_i108, z_h108), (z_m109, z_c109, z_i109, z_h109)] = true := by decide +kernel
theorem zt_102 : z_ckM z_m102 z_c102 z_i102 z_h102 = true := z_ckq_at (k := 0) zq9_102 rfl
theorem zt_103 : z_ckM z_m103 z_c103 z_i103 z_h103 = true := z_ckq_at (k := 1) zq9_102 rfl
theorem zt_104 : z_ckM z_m104 z_c104 z_i104 z_h104 = true := z_ckq_at (k := 2) zq9_102 rfl
theorem zt_105 : z_ckM z_m105 z_c105 z_i105 z_h105 = true := z_ckq_at (k := 3) zq9_102 rfl
theorem zt_106 : z_ckM z_m106 z_c106 z_i106 z_h106 = true := z_ckq_at (k := 4) zq9_102 rfl
theorem zt_107 : z_ckM z_m107 z_c107 z_i107 z_h107 = true := z_ckq_at (k := 5) zq9_102 rfl
theorem zt_108 : z_ckM z_m108 z_c108 z_i108 z_h108 = true := z_ckq_at (k := 6) zq9_102 rfl
theorem zt_109 : z_ckM z_m109 z_c109 z_i109 z_h109 = true := z_ckq_at (k := 7) zq9_102 rfl
theorem zq9_110 : z_ckq [(z_m110, z_c110, z_i110, z_h110), (z_m111, z_c111, z_i111, z_h111), (z_m112, z_c112, z_i112, z_h112), (z_m113, z_c113, z_i113, z_h113), (z_m114, z_c114, z_i114, z_h114), (z_m115, z_c115, z_i115, z_h115), (z_m116, z_c116, z_i116, z_h116), (z_m117, z_c117, z_i117, z_h117)] = true := by decide +kernel
theorem zt_110 : z_ckM z_m110 z_c110 z_i110 z_h110 = true := z_ckq_at (k := 0) zq9_110 rfl
theorem zt_111 : z_ckM z_m111 z_c111 z_i111 z_h111 = true := z_ckq_at (k := 1) zq9_110 rfl
theorem zt_112 : z_ckM z_m112 z_c112 z_i112 z_h112 = true := z_ckq_at (k := 2) zq9_110 rfl
theorem zt_113 : z_ckM z_m113 z_c113 z_i113 z_h113 = true := z_ckq_at (k := 3) zq9_110 rfl
theorem zt_114 : z_ckM z_m114 z_c114 z_i114 z_h114 = true := z_ckq_at (k := 4) zq9_110 rfl
theorem zt_115 : z_ckM z_m115 z_c115 z_i115 z_h115 = true := z_ckq_at (k := 5) zq9_110 rfl
theorem zt_116 : z_ckM z_m116 z_c116 z_i116 z_h116 = true := z_ckq_at (k := 6) zq9_110 rfl
theorem zt_117 : z_ckM z_m117 z_c117 z_i117 z_h117 = true := z_ckq_at (k := 7) zq9_110 rfl
theorem zq9_118 : z_ckq [(z_m118, z_c118, z_i118, z_h118), (z_m119, z_c119, z_i119, z_h119), (z_m120, z_c120, z_i120, z_h120), (z_m121, z_c121, z_i121, z_h121), (z_m122, z_c122, z_i122, z_h122), (z_m123, z_c123, z_i123, z_h123), (z_m124, z_c124, z_i124, z_h124), (z_m125, z_c125, z_i125, z_h125)] = true := by decide +kernel
theorem zt_118 : z_ckM z_m118 z_c118 z_i118 z_h118 = true := z_ckq_at (k := 0) zq9_118 rfl
theorem zt_119 : z_ckM z_m119 z_c119 z_i119 z_h119 = true := z_ckq_at (k := 1) zq9_118 rfl
theorem zt_120 : z_ckM z_m120 z_c120 z_i120 z_h120 = true := z_ckq_at (k := 2) zq9_118 rfl
theorem zt_121 : z_ckM z_m121 z_c121 z_i121 z_h121 = true := z_ckq_at (k := 3) zq9_118 rfl
theorem zt_122 : z_ckM z_m122 z_c122 z_i122 z_h122 = true := z_ckq_at (k := 4) zq9_118 rfl
theorem zt_123 : z_ckM z_m123 z_c123 z_i123 z_h123 = true := z_ckq_at (k := 5) zq9_118 rfl
theorem zt_124 : z_ckM z_m124 z_c124 z_i124 z_h124 = true := z_ckq_at (k := 6) zq9_118 rfl
theorem zt_125 : z_ckM z_m125 z_c125 z_i125 z_h125 = true := z_ckq_at (k := 7) zq9_118 rfl
theorem zq9_126 : z_ckq [(z_m126, z_c126, z_i126, z_h126), (z_m127, z_c127, z_i127, z_h127), (z_m128, z_c128, z_i128, z_h128)] = true := by decide +kernel
theorem zt_126 : z_ckM z_m126 z_c126 z_i126 z_h126 = true := z_ckq_at (k := 0) zq9_126 rfl
theorem zt_127 : z_ckM z_m127 z_c127 z_i127 z_h127 = true := z_ckq_at (k := 1) zq9_126 rfl
theorem zt_128 : z_ckM z_m128 z_c128 z_i128 z_h128 = true := z_ckq_at (k := 2) zq9_126 rfl
theorem zt_g2 : z_ck4 z_ms_2 z_cs_2 z_is_2 z_hs_2 := ⟨zt_86, zt_87, zt_88, zt_89, zt_90, zt_91, zt_92, zt_93, zt_94, zt_95, zt_96, zt_97, zt_98, zt_99, zt_100, zt_101, zt_102, zt_103, zt_104, zt_105, zt_106, zt_107, zt_108, zt_109, zt_110, zt_111, zt_112, zt_113, zt_114, zt_115, zt_116, zt_117, zt_118, zt_119, zt_120, zt_121, zt_122, zt_123, zt_124, zt_125, zt_126, zt_127, zt_128, trivial⟩
