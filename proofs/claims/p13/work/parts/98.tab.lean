/-! all tables are right -/
theorem z_ck4_all : z_ck4 z_ms z_cs z_is z_hs := z_ck4_app zt_g0 (z_ck4_app zt_g1 (z_ck4_app zt_g2 (z_ck4_app zt_g3 (z_ck4_app zt_g4 (z_ck4_app zt_g5 (z_ck4_app zt_g6 (z_ck4_app zt_g7 (zt_g8))))))))
theorem z_OK_all : z_OK := fun j M cs is hs h1 h2 h3 h4 => z_ck4_at z_ck4_all j M cs is hs h1 h2 h3 h4
theorem z_LEN_all : z_LEN := z_ck4_len z_ck4_all
