set_option maxRecDepth 100000 in
set_option maxHeartbeats 8000000 in
theorem ca_8 {x : Cx} {nm : String} {d : Nat} (F : Fx x cL_law 4 RL nm (some .boolean) d) (hd : 60 ≤ d) {ad : Nat → Nat} {cells slots : Nat} (hJ : jSx x ad) {b L : Nat} {xs : Nat → Int32} (hS : Sc x b L xs) (had : ad 900 = b) {j m : Nat} (hj : 4 * j + 4 ≤ L) (hL : L ≤ 2048) (K : Nxt x (ad, cells, slots) j m) {s : S9} (I : Iv m s) : J x 4 (ad, cells, slots) (392, [(0, .ref 900), (1, .ref 0), (2, .ref 500), (3, .int (nI (4 * j)))], [], WD9 s) := by
  have I1 := I.up
  obtain ⟨⟨i1, i2, i3, i4⟩, ⟨i5, i6⟩, ⟨i7, i8, i9, i10⟩, ⟨i11, i12⟩, iH, iG, iP, iQ⟩ := I
  obtain ⟨n0, B0, R0, hg⟩ := Hx_Hg iH
  have hn0 := hg.1
  have h0 := hg.2.1
  have hR := Hg_Rok hg
  have hn4 : s.h 0 ≤ 4 := i_le4 h0 hn0
  have hst := iG.2.2.1
  generalize ha1 : xs (4 * j + 1) = a1
  by_cases h1 : a1 < 1
  · skip
    refine lw_8 F hJ hS had hj hL ha1 (c_driftO1 (kpI s.k0 s.k1) s.h s.b s.sd a1 h1) (c_mdriftO (zf s) s.h s.b s.nb a1 (inB_lo h1)) (by omega) (by omega) rfl rfl [0, 10, 11, 12, 100, 101, 102, 103, 104] [500, 502, 505, 506] rfl rfl (by decide +kernel) (by decide +kernel) (by decide +kernel) rfl rfl (fun r u h => ⟨_, h.1⟩) (fun v u1 r2 u2 hu1 hu2 hp1 hp2 => ?_)
    obtain ⟨hv, rfl⟩ := hp1
    obtain ⟨rfl, rfl⟩ := hp2
    obtain rfl := Value.int.inj (Option.some.inj hv)
    exact ⟨rfl, fin8 K (by decide +kernel) (by decide +kernel) rfl I1⟩
  · by_cases h2 : 999 < a1
    · skip
      refine lw_8 F hJ hS had hj hL ha1 (c_driftO2 (kpI s.k0 s.k1) s.h s.b s.sd a1 h1 h2) (c_mdriftO (zf s) s.h s.b s.nb a1 (inB_hi h2)) (by omega) (by omega) rfl rfl [0, 10, 11, 12, 100, 101, 102, 103, 104] [500, 502, 505, 506] rfl rfl (by decide +kernel) (by decide +kernel) (by decide +kernel) rfl rfl (fun r u h => ⟨_, h.1⟩) (fun v u1 r2 u2 hu1 hu2 hp1 hp2 => ?_)
      obtain ⟨hv, rfl⟩ := hp1
      obtain ⟨rfl, rfl⟩ := hp2
      obtain rfl := Value.int.inj (Option.some.inj hv)
      exact ⟨rfl, fin8 K (by decide +kernel) (by decide +kernel) rfl I1⟩
    · by_cases hz : s.h 0 = 0
      · skip
        refine lw_8 F hJ hS had hj hL ha1 (c_driftN (kpI s.k0 s.k1) s.h s.b s.sd a1 h1 h2 hz) (c_mdriftN (zf s) s.h s.b s.nb a1 (inB_ok h1 h2) hz) (by omega) (by omega) rfl rfl [0, 10, 11, 12, 100, 101, 102, 103, 104] [500, 502, 505, 506] rfl rfl (by decide +kernel) (by decide +kernel) (by decide +kernel) rfl rfl (fun r u h => ⟨_, h.1⟩) (fun v u1 r2 u2 hu1 hu2 hp1 hp2 => ?_)
        obtain ⟨hv, rfl⟩ := hp1
        obtain ⟨rfl, rfl⟩ := hp2
        obtain rfl := Value.int.inj (Option.some.inj hv)
        exact ⟨rfl, fin8 K (by decide +kernel) (by decide +kernel) rfl I1⟩
      · obtain ⟨n, hn1, hn2, rfl⟩ := inB_ex (l := 1) (u := 999) (by decide) (by decide) (inB_ok h1 h2)
        obtain ⟨q1, q2, q3⟩ := drift_eq hR iG.1 (Eq25.rf s.b) s.sd n
        have E := ((mtk_25 s.b (mdr s.h (mcp s.b) s.sd n).1).tr q1).sy
        refine lw_8 F hJ hS had hj hL ha1 (c_drift (kpI s.k0 s.k1) s.h s.b s.sd n (by omega) h1 h2 hz) (c_mdrift (zf s) s.h s.b s.nb s.sd n (by omega) (inB_ok h1 h2) hz hn4 hst) (by omega) (by omega) rfl rfl [0, 10, 11, 12, 100, 101, 102, 103, 104] [500, 502, 505, 506] rfl rfl (by decide +kernel) (by decide +kernel) (by decide +kernel) rfl rfl (fun r u h => ⟨_, h.1⟩) (fun v u1 r2 u2 hu1 hu2 hp1 hp2 => ?_)
        obtain ⟨hv, rfl⟩ := hp1
        obtain ⟨rfl, rfl⟩ := hp2
        obtain rfl := Value.int.inj (Option.some.inj hv)
        exact ⟨(sI (congrArg (fun z => z - s.b 4) (E 4 (by decide)).symm)), fin9 K s.h s.dh (mtk s.b (mdr s.h (mcp s.b) s.sd n).1) s.tb s.p s.q s.pm s.qm (mdr s.h (mcp s.b) s.sd n).1 s.w32 s.v32 s.y28 s.ot s.dl s.rb s.rs s.ty s.tx s.ps s.gs s.ls s.st9 s.mt9 (cdr s.h s.b s.sd n).2 s.ts s.s0 s.s1 s.fp s.fd s.lt s.ct s.g2 s.g3 s.g4 s.g5 s.a2 s.a3 s.a4 s.e0 s.e1 s.e2 s.m18 s.m21 s.m22 s.m23 s.m26 s.ab s.t s.ra s.n s.c s.m17 s.m19 s.m20 s.k0 s.k1 (by decide +kernel) (by decide +kernel) (cdr s.h s.b s.sd n).1 E (by rw [q2]; rfl) rfl ⟨I1.1, I1.2.1, I1.2.2.1, I1.2.2.2.1, I1.2.2.2.2.1, (GM.c25 E ((iG.cdr hR h0 hn0 s.sd n).mono (by omega))), I1.2.2.2.2.2.2.1, I1.2.2.2.2.2.2.2⟩⟩
set_option maxRecDepth 100000 in
set_option maxHeartbeats 8000000 in
theorem ca_11 {x : Cx} {nm : String} {d : Nat} (F : Fx x cL_law 4 RL nm (some .boolean) d) (hd : 60 ≤ d) {ad : Nat → Nat} {cells slots : Nat} (hJ : jSx x ad) {b L : Nat} {xs : Nat → Int32} (hS : Sc x b L xs) (had : ad 900 = b) {j m : Nat} (hj : 4 * j + 4 ≤ L) (hL : L ≤ 2048) (K : Nxt x (ad, cells, slots) j m) {s : S9} (I : Iv m s) : J x 4 (ad, cells, slots) (451, [(0, .ref 900), (1, .ref 0), (2, .ref 500), (3, .int (nI (4 * j)))], [], WD9 s) := by
  have I1 := I.up
  obtain ⟨⟨i1, i2, i3, i4⟩, ⟨i5, i6⟩, ⟨i7, i8, i9, i10⟩, ⟨i11, i12⟩, iH, iG, iP, iQ⟩ := I
  obtain ⟨n0, B0, R0, hg⟩ := Hx_Hg iH
  have hn0 := hg.1
  have h0 := hg.2.1
  have hR := Hg_Rok hg
  have hn4 : s.h 0 ≤ 4 := i_le4 h0 hn0
  have hst := iG.2.2.1
  generalize ha1 : xs (4 * j + 1) = a1
  generalize ha2 : xs (4 * j + 2) = a2
  obtain ⟨q1, q2, q3, q4, q5, q6⟩ := run_eq (ps := s.ps) hR iG.1 (Eq25.rf s.b) s.n
  have hm1 : inB (-1) (-1) (s.h 0 - 1) = true := by rw [h0]; exact in_m1 hn0
  by_cases e1 : a1 = -1
  · subst e1
    cases hW : inB a2 0 3
    · rcases inB_sp hW with h1 | ⟨h1, h2⟩
      · skip
        refine lw_11 F hJ hS had hj hL ha1 ha2 (c_runO1 (kpI s.k0 s.k1) (gi [s.g2, s.g3, s.g4, s.g5]) s.h s.b s.tb s.sd s.ts s.ps i5 s.n i6 a2 h1) (c_mrunO (zf s) s.h s.b s.nb s.ps i5 s.n i6 hn4 hst a2 hm1 hW) (by omega) (by omega) rfl rfl [0, 30, 31, 10, 11, 12, 100, 101, 102, 103, 104, 110, 111, 112, 113, 114] [500, 502, 505, 506, 510] rfl rfl (by decide +kernel) (by decide +kernel) (by decide +kernel) rfl rfl (fun r u h => ⟨_, h.1⟩) (fun v u1 r2 u2 hu1 hu2 hp1 hp2 => ?_)
        obtain ⟨hv, rfl⟩ := hp1
        obtain ⟨rfl, rfl⟩ := hp2
        obtain rfl := Value.int.inj (Option.some.inj hv)
        exact ⟨rfl, fin8 K (by decide +kernel) (by decide +kernel) rfl I1⟩
      · skip
        refine lw_11 F hJ hS had hj hL ha1 ha2 (c_runO2 (kpI s.k0 s.k1) (gi [s.g2, s.g3, s.g4, s.g5]) s.h s.b s.tb s.sd s.ts s.ps i5 s.n i6 a2 h1 h2) (c_mrunO (zf s) s.h s.b s.nb s.ps i5 s.n i6 hn4 hst a2 hm1 hW) (by omega) (by omega) rfl rfl [0, 30, 31, 10, 11, 12, 100, 101, 102, 103, 104, 110, 111, 112, 113, 114] [500, 502, 505, 506, 510] rfl rfl (by decide +kernel) (by decide +kernel) (by decide +kernel) rfl rfl (fun r u h => ⟨_, h.1⟩) (fun v u1 r2 u2 hu1 hu2 hp1 hp2 => ?_)
        obtain ⟨hv, rfl⟩ := hp1
        obtain ⟨rfl, rfl⟩ := hp2
        obtain rfl := Value.int.inj (Option.some.inj hv)
        exact ⟨rfl, fin8 K (by decide +kernel) (by decide +kernel) rfl I1⟩
    · rcases in_4 hW with rfl | rfl | rfl | rfl
      · skip
        refine lw_11 F hJ hS had hj hL ha1 ha2 (c_run0 (kpI s.k0 s.k1) (gi [s.g2, s.g3, s.g4, s.g5]) s.h s.b s.tb s.sd s.ts s.ps i5 s.n i6) (c_mrun0 (zf s) s.h s.b s.nb s.ps i5 s.n i6 hn4 hst hm1) (by omega) (by omega) rfl rfl [0, 30, 31, 10, 11, 12, 100, 101, 102, 103, 104, 110, 111, 112, 113, 114] [500, 502, 505, 506, 510] rfl rfl (by decide +kernel) (by decide +kernel) (by decide +kernel) rfl rfl (fun r u h => ⟨_, h.1⟩) (fun v u1 r2 u2 hu1 hu2 hp1 hp2 => ?_)
        obtain ⟨hv, rfl⟩ := hp1
        obtain ⟨rfl, rfl⟩ := hp2
        obtain rfl := Value.int.inj (Option.some.inj hv)
        exact ⟨(sI q2), fin9 K s.h s.dh s.b (plB s.h s.ps s.b s.n) s.p s.q s.pm s.qm (mrB s.h s.ps (mcp s.b) s.n) s.w32 s.v32 s.y28 s.ot s.dl s.rb s.rs s.ty s.tx s.ps s.gs s.ls s.st9 s.mt9 s.sd s.sd s.s0 s.s1 s.fp s.fd s.lt s.ct (plS s.h s.ps s.b s.n) (plO s.h s.ps s.b s.n) (plD s.h s.ps s.b s.n) (plG s.h s.ps s.b s.n) s.a2 s.a3 s.a4 s.e0 s.e1 s.e2 s.m18 s.m21 s.m22 s.m23 s.m26 s.ab s.t s.ra s.n s.c s.m17 s.m19 s.m20 s.k0 s.k1 (by decide +kernel) (by decide +kernel) s.b (Eq25.rf _) rfl rfl I1⟩
      · skip
        refine lw_11 F hJ hS had hj hL ha1 ha2 (c_run1 (kpI s.k0 s.k1) (gi [s.g2, s.g3, s.g4, s.g5]) s.h s.b s.tb s.sd s.ts s.ps i5 s.n i6) (c_mrun1 (zf s) s.h s.b s.nb s.ps i5 s.n i6 hn4 hst hm1) (by omega) (by omega) rfl rfl [0, 30, 31, 10, 11, 12, 100, 101, 102, 103, 104, 110, 111, 112, 113, 114] [500, 502, 505, 506, 510] rfl rfl (by decide +kernel) (by decide +kernel) (by decide +kernel) rfl rfl (fun r u h => ⟨_, h.1⟩) (fun v u1 r2 u2 hu1 hu2 hp1 hp2 => ?_)
        obtain ⟨hv, rfl⟩ := hp1
        obtain ⟨rfl, rfl⟩ := hp2
        obtain rfl := Value.int.inj (Option.some.inj hv)
        exact ⟨(sI q3), fin9 K s.h s.dh s.b (plB s.h s.ps s.b s.n) s.p s.q s.pm s.qm (mrB s.h s.ps (mcp s.b) s.n) s.w32 s.v32 s.y28 s.ot s.dl s.rb s.rs s.ty s.tx s.ps s.gs s.ls s.st9 s.mt9 s.sd s.sd s.s0 s.s1 s.fp s.fd s.lt s.ct (plS s.h s.ps s.b s.n) (plO s.h s.ps s.b s.n) (plD s.h s.ps s.b s.n) (plG s.h s.ps s.b s.n) s.a2 s.a3 s.a4 s.e0 s.e1 s.e2 s.m18 s.m21 s.m22 s.m23 s.m26 s.ab s.t s.ra s.n s.c s.m17 s.m19 s.m20 s.k0 s.k1 (by decide +kernel) (by decide +kernel) s.b (Eq25.rf _) rfl rfl I1⟩
      · skip
        refine lw_11 F hJ hS had hj hL ha1 ha2 (c_run2 (kpI s.k0 s.k1) (gi [s.g2, s.g3, s.g4, s.g5]) s.h s.b s.tb s.sd s.ts s.ps i5 s.n i6) (c_mrun2 (zf s) s.h s.b s.nb s.ps i5 s.n i6 hn4 hst hm1) (by omega) (by omega) rfl rfl [0, 30, 31, 10, 11, 12, 100, 101, 102, 103, 104, 110, 111, 112, 113, 114] [500, 502, 505, 506, 510] rfl rfl (by decide +kernel) (by decide +kernel) (by decide +kernel) rfl rfl (fun r u h => ⟨_, h.1⟩) (fun v u1 r2 u2 hu1 hu2 hp1 hp2 => ?_)
        obtain ⟨hv, rfl⟩ := hp1
        obtain ⟨rfl, rfl⟩ := hp2
        obtain rfl := Value.int.inj (Option.some.inj hv)
        exact ⟨(sI q5), fin9 K s.h s.dh s.b (plB s.h s.ps s.b s.n) s.p s.q s.pm s.qm (mrB s.h s.ps (mcp s.b) s.n) s.w32 s.v32 s.y28 s.ot s.dl s.rb s.rs s.ty s.tx s.ps s.gs s.ls s.st9 s.mt9 s.sd s.sd s.s0 s.s1 s.fp s.fd s.lt s.ct (plS s.h s.ps s.b s.n) (plO s.h s.ps s.b s.n) (plD s.h s.ps s.b s.n) (plG s.h s.ps s.b s.n) s.a2 s.a3 s.a4 s.e0 s.e1 s.e2 s.m18 s.m21 s.m22 s.m23 s.m26 s.ab s.t s.ra s.n s.c s.m17 s.m19 s.m20 s.k0 s.k1 (by decide +kernel) (by decide +kernel) s.b (Eq25.rf _) rfl rfl I1⟩
      · skip
        refine lw_11 F hJ hS had hj hL ha1 ha2 (c_run3 (kpI s.k0 s.k1) (gi [s.g2, s.g3, s.g4, s.g5]) s.h s.b s.tb s.sd s.ts s.ps i5 s.n i6) (c_mrun3 (zf s) s.h s.b s.nb s.ps i5 s.n i6 hn4 hst hm1) (by omega) (by omega) rfl rfl [0, 30, 31, 10, 11, 12, 100, 101, 102, 103, 104, 110, 111, 112, 113, 114] [500, 502, 505, 506, 510] rfl rfl (by decide +kernel) (by decide +kernel) (by decide +kernel) rfl rfl (fun r u h => ⟨_, h.1⟩) (fun v u1 r2 u2 hu1 hu2 hp1 hp2 => ?_)
        obtain ⟨hv, rfl⟩ := hp1
        obtain ⟨rfl, rfl⟩ := hp2
        obtain rfl := Value.int.inj (Option.some.inj hv)
        exact ⟨(sI q4), fin9 K s.h s.dh s.b (plB s.h s.ps s.b s.n) s.p s.q s.pm s.qm (mrB s.h s.ps (mcp s.b) s.n) s.w32 s.v32 s.y28 s.ot s.dl s.rb s.rs s.ty s.tx s.ps s.gs s.ls s.st9 s.mt9 s.sd s.sd s.s0 s.s1 s.fp s.fd s.lt s.ct (plS s.h s.ps s.b s.n) (plO s.h s.ps s.b s.n) (plD s.h s.ps s.b s.n) (plG s.h s.ps s.b s.n) s.a2 s.a3 s.a4 s.e0 s.e1 s.e2 s.m18 s.m21 s.m22 s.m23 s.m26 s.ab s.t s.ra s.n s.c s.m17 s.m19 s.m20 s.k0 s.k1 (by decide +kernel) (by decide +kernel) s.b (Eq25.rf _) rfl rfl I1⟩
  · cases hM : imB a1 (s.h 0)
    · skip
      refine lw_11 F hJ hS had hj hL ha1 ha2 (c_runU (kpI s.k0 s.k1) (gi [s.g2, s.g3, s.g4, s.g5]) s.h s.b s.tb s.sd s.ts s.ps i5 s.n i6 a1 a2 e1 hM) (c_mrunU (zf s) s.h s.b s.nb s.ps i5 s.n i6 hn4 hst a1 a2 (run_in ((im_in hn0 h0 a1).symm.trans hM) e1)) (by omega) (by omega) rfl rfl [0, 30, 31, 10, 11, 12, 100, 101, 102, 103, 104, 110, 111, 112, 113, 114] [500, 502, 505, 506, 510] rfl rfl (by decide +kernel) (by decide +kernel) (by decide +kernel) rfl rfl (fun r u h => ⟨_, h.1⟩) (fun v u1 r2 u2 hu1 hu2 hp1 hp2 => ?_)
      obtain ⟨hv, rfl⟩ := hp1
      obtain ⟨rfl, rfl⟩ := hp2
      obtain rfl := Value.int.inj (Option.some.inj hv)
      exact ⟨rfl, fin8 K (by decide +kernel) (by decide +kernel) rfl I1⟩
    · rcases imB_4 hM with rfl | rfl | rfl | rfl
      · skip
        refine lw_11 F hJ hS had hj hL ha1 ha2 (c_runM0 (kpI s.k0 s.k1) (gi [s.g2, s.g3, s.g4, s.g5]) s.h s.b s.tb s.sd s.ts s.ps i5 s.n i6 a2 hM) (c_mrunM0 (zf s) s.h s.b s.nb s.ps i5 s.n i6 hn4 hst a2 (in_wk ((im_in hn0 h0 0).symm.trans hM))) (by omega) (by omega) rfl rfl [0, 30, 31, 10, 11, 12, 100, 101, 102, 103, 104, 110, 111, 112, 113, 114] [500, 502, 505, 506, 510] rfl rfl (by decide +kernel) (by decide +kernel) (by decide +kernel) rfl rfl (fun r u h => ⟨_, h.1⟩) (fun v u1 r2 u2 hu1 hu2 hp1 hp2 => ?_)
        obtain ⟨hv, rfl⟩ := hp1
        obtain ⟨rfl, rfl⟩ := hp2
        obtain rfl := Value.int.inj (Option.some.inj hv)
        exact ⟨(sI (congrArg (fun y => y - s.b 21) (q1 21 (by decide)))), fin9 K s.h s.dh s.b (plB s.h s.ps s.b s.n) s.p s.q s.pm s.qm (mrB s.h s.ps (mcp s.b) s.n) s.w32 s.v32 s.y28 s.ot s.dl s.rb s.rs s.ty s.tx s.ps s.gs s.ls s.st9 s.mt9 s.sd s.sd s.s0 s.s1 s.fp s.fd s.lt s.ct (plS s.h s.ps s.b s.n) (plO s.h s.ps s.b s.n) (plD s.h s.ps s.b s.n) (plG s.h s.ps s.b s.n) s.a2 s.a3 s.a4 s.e0 s.e1 s.e2 s.m18 s.m21 s.m22 s.m23 s.m26 s.ab s.t s.ra s.n s.c s.m17 s.m19 s.m20 s.k0 s.k1 (by decide +kernel) (by decide +kernel) s.b (Eq25.rf _) rfl rfl I1⟩
      · skip
        refine lw_11 F hJ hS had hj hL ha1 ha2 (c_runM1 (kpI s.k0 s.k1) (gi [s.g2, s.g3, s.g4, s.g5]) s.h s.b s.tb s.sd s.ts s.ps i5 s.n i6 a2 hM) (c_mrunM1 (zf s) s.h s.b s.nb s.ps i5 s.n i6 hn4 hst a2 (in_wk ((im_in hn0 h0 1).symm.trans hM))) (by omega) (by omega) rfl rfl [0, 30, 31, 10, 11, 12, 100, 101, 102, 103, 104, 110, 111, 112, 113, 114] [500, 502, 505, 506, 510] rfl rfl (by decide +kernel) (by decide +kernel) (by decide +kernel) rfl rfl (fun r u h => ⟨_, h.1⟩) (fun v u1 r2 u2 hu1 hu2 hp1 hp2 => ?_)
        obtain ⟨hv, rfl⟩ := hp1
        obtain ⟨rfl, rfl⟩ := hp2
        obtain rfl := Value.int.inj (Option.some.inj hv)
        exact ⟨(sI (congrArg (fun y => y - s.b 22) (q1 22 (by decide)))), fin9 K s.h s.dh s.b (plB s.h s.ps s.b s.n) s.p s.q s.pm s.qm (mrB s.h s.ps (mcp s.b) s.n) s.w32 s.v32 s.y28 s.ot s.dl s.rb s.rs s.ty s.tx s.ps s.gs s.ls s.st9 s.mt9 s.sd s.sd s.s0 s.s1 s.fp s.fd s.lt s.ct (plS s.h s.ps s.b s.n) (plO s.h s.ps s.b s.n) (plD s.h s.ps s.b s.n) (plG s.h s.ps s.b s.n) s.a2 s.a3 s.a4 s.e0 s.e1 s.e2 s.m18 s.m21 s.m22 s.m23 s.m26 s.ab s.t s.ra s.n s.c s.m17 s.m19 s.m20 s.k0 s.k1 (by decide +kernel) (by decide +kernel) s.b (Eq25.rf _) rfl rfl I1⟩
      · skip
        refine lw_11 F hJ hS had hj hL ha1 ha2 (c_runM2 (kpI s.k0 s.k1) (gi [s.g2, s.g3, s.g4, s.g5]) s.h s.b s.tb s.sd s.ts s.ps i5 s.n i6 a2 hM) (c_mrunM2 (zf s) s.h s.b s.nb s.ps i5 s.n i6 hn4 hst a2 (in_wk ((im_in hn0 h0 2).symm.trans hM))) (by omega) (by omega) rfl rfl [0, 30, 31, 10, 11, 12, 100, 101, 102, 103, 104, 110, 111, 112, 113, 114] [500, 502, 505, 506, 510] rfl rfl (by decide +kernel) (by decide +kernel) (by decide +kernel) rfl rfl (fun r u h => ⟨_, h.1⟩) (fun v u1 r2 u2 hu1 hu2 hp1 hp2 => ?_)
        obtain ⟨hv, rfl⟩ := hp1
        obtain ⟨rfl, rfl⟩ := hp2
        obtain rfl := Value.int.inj (Option.some.inj hv)
        exact ⟨(sI (congrArg (fun y => y - s.b 23) (q1 23 (by decide)))), fin9 K s.h s.dh s.b (plB s.h s.ps s.b s.n) s.p s.q s.pm s.qm (mrB s.h s.ps (mcp s.b) s.n) s.w32 s.v32 s.y28 s.ot s.dl s.rb s.rs s.ty s.tx s.ps s.gs s.ls s.st9 s.mt9 s.sd s.sd s.s0 s.s1 s.fp s.fd s.lt s.ct (plS s.h s.ps s.b s.n) (plO s.h s.ps s.b s.n) (plD s.h s.ps s.b s.n) (plG s.h s.ps s.b s.n) s.a2 s.a3 s.a4 s.e0 s.e1 s.e2 s.m18 s.m21 s.m22 s.m23 s.m26 s.ab s.t s.ra s.n s.c s.m17 s.m19 s.m20 s.k0 s.k1 (by decide +kernel) (by decide +kernel) s.b (Eq25.rf _) rfl rfl I1⟩
      · skip
        refine lw_11 F hJ hS had hj hL ha1 ha2 (c_runM3 (kpI s.k0 s.k1) (gi [s.g2, s.g3, s.g4, s.g5]) s.h s.b s.tb s.sd s.ts s.ps i5 s.n i6 a2 hM) (c_mrunM3 (zf s) s.h s.b s.nb s.ps i5 s.n i6 hn4 hst a2 (in_wk ((im_in hn0 h0 3).symm.trans hM))) (by omega) (by omega) rfl rfl [0, 30, 31, 10, 11, 12, 100, 101, 102, 103, 104, 110, 111, 112, 113, 114] [500, 502, 505, 506, 510] rfl rfl (by decide +kernel) (by decide +kernel) (by decide +kernel) rfl rfl (fun r u h => ⟨_, h.1⟩) (fun v u1 r2 u2 hu1 hu2 hp1 hp2 => ?_)
        obtain ⟨hv, rfl⟩ := hp1
        obtain ⟨rfl, rfl⟩ := hp2
        obtain rfl := Value.int.inj (Option.some.inj hv)
        exact ⟨(sI (congrArg (fun y => y - s.b 24) (q1 24 (by decide)))), fin9 K s.h s.dh s.b (plB s.h s.ps s.b s.n) s.p s.q s.pm s.qm (mrB s.h s.ps (mcp s.b) s.n) s.w32 s.v32 s.y28 s.ot s.dl s.rb s.rs s.ty s.tx s.ps s.gs s.ls s.st9 s.mt9 s.sd s.sd s.s0 s.s1 s.fp s.fd s.lt s.ct (plS s.h s.ps s.b s.n) (plO s.h s.ps s.b s.n) (plD s.h s.ps s.b s.n) (plG s.h s.ps s.b s.n) s.a2 s.a3 s.a4 s.e0 s.e1 s.e2 s.m18 s.m21 s.m22 s.m23 s.m26 s.ab s.t s.ra s.n s.c s.m17 s.m19 s.m20 s.k0 s.k1 (by decide +kernel) (by decide +kernel) s.b (Eq25.rf _) rfl rfl I1⟩
set_option maxRecDepth 100000 in
set_option maxHeartbeats 8000000 in
theorem ca_12 {x : Cx} {nm : String} {d : Nat} (F : Fx x cL_law 4 RL nm (some .boolean) d) (hd : 60 ≤ d) {ad : Nat → Nat} {cells slots : Nat} (hJ : jSx x ad) {b L : Nat} {xs : Nat → Int32} (hS : Sc x b L xs) (had : ad 900 = b) {j m : Nat} (hj : 4 * j + 4 ≤ L) (hL : L ≤ 2048) (K : Nxt x (ad, cells, slots) j m) {s : S9} (I : Iv m s) : J x 4 (ad, cells, slots) (484, [(0, .ref 900), (1, .ref 0), (2, .ref 500), (3, .int (nI (4 * j)))], [], WD9 s) := by
  have I1 := I.up
  obtain ⟨⟨i1, i2, i3, i4⟩, ⟨i5, i6⟩, ⟨i7, i8, i9, i10⟩, ⟨i11, i12⟩, iH, iG, iP, iQ⟩ := I
  obtain ⟨n0, B0, R0, hg⟩ := Hx_Hg iH
  have hn0 := hg.1
  have h0 := hg.2.1
  have hR := Hg_Rok hg
  have hn4 : s.h 0 ≤ 4 := i_le4 h0 hn0
  have hst := iG.2.2.1
  obtain ⟨q1, q2, q3, q4, q5, q6⟩ := run_eq (ps := s.ps) hR iG.1 (Eq25.rf s.b) s.n
  have E := ((mtk_25 s.b (mrB s.h s.ps (mcp s.b) s.n)).tr q1).sy
  refine lw_12 F hJ hS had hj hL (c_follow (kpI s.k0 s.k1) (gi [s.g2, s.g3, s.g4, s.g5]) s.h s.b s.sd s.ps i5 s.n i6) (c_mfollow (zf s) s.h s.b s.nb s.ps i5 s.n i6 hn4 hst) (by omega) (by omega) rfl rfl [0, 30, 31, 100, 101, 102, 103, 104, 10, 11, 12] [500, 502, 505, 506, 510] rfl rfl (by decide +kernel) (by decide +kernel) (by decide +kernel) rfl rfl (fun r u h => ⟨_, h.1⟩) (fun v u1 r2 u2 hu1 hu2 hp1 hp2 => ?_)
  obtain ⟨hv, rfl⟩ := hp1
  obtain ⟨rfl, rfl⟩ := hp2
  obtain rfl := Value.int.inj (Option.some.inj hv)
  exact ⟨(sI q2), fin9 K s.h s.dh (mtk s.b (mrB s.h s.ps (mcp s.b) s.n)) s.tb s.p s.q s.pm s.qm (mrB s.h s.ps (mcp s.b) s.n) s.w32 s.v32 s.y28 s.ot s.dl s.rb s.rs s.ty s.tx s.ps s.gs s.ls s.st9 s.mt9 s.sd s.ts s.s0 s.s1 s.fp s.fd s.lt s.ct (plS s.h s.ps s.b s.n) (plO s.h s.ps s.b s.n) (plD s.h s.ps s.b s.n) (plG s.h s.ps s.b s.n) s.a2 s.a3 s.a4 s.e0 s.e1 s.e2 s.m18 s.m21 s.m22 s.m23 s.m26 s.ab s.t s.ra s.n s.c s.m17 s.m19 s.m20 s.k0 s.k1 (by decide +kernel) (by decide +kernel) (plB s.h s.ps s.b s.n) E rfl rfl ⟨I1.1, I1.2.1, I1.2.2.1, I1.2.2.2.1, I1.2.2.2.2.1, (GM.c25 E ((iG.plB hR h0 hn0 s.ps s.n).mono (by omega))), I1.2.2.2.2.2.2.1, I1.2.2.2.2.2.2.2⟩⟩
