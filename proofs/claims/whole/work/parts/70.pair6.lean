set_option maxRecDepth 100000 in
set_option maxHeartbeats 8000000 in
theorem ca_23 {x : Cx} {nm : String} {d : Nat} (F : Fx x cL_law 4 RL nm (some .boolean) d) (hd : 60 ≤ d) {ad : Nat → Nat} {cells slots : Nat} (hJ : jSx x ad) {b L : Nat} {xs : Nat → Int32} (hS : Sc x b L xs) (had : ad 900 = b) {j m : Nat} (hj : 4 * j + 4 ≤ L) (hL : L ≤ 2048) (K : Nxt x (ad, cells, slots) j m) {s : S9} (I : Iv m s) : J x 4 (ad, cells, slots) (727, [(0, .ref 900), (1, .ref 0), (2, .ref 500), (3, .int (nI (4 * j)))], [], WD9 s) := by
  have I1 := I.up
  obtain ⟨⟨i1, i2, i3, i4⟩, ⟨i5, i6⟩, ⟨i7, i8, i9, i10⟩, ⟨i11, i12⟩, iH, iG, iP, iQ⟩ := I
  obtain ⟨n0, B0, R0, hg⟩ := Hx_Hg iH
  have hn0 := hg.1
  have h0 := hg.2.1
  have hR := Hg_Rok hg
  have hn4 : s.h 0 ≤ 4 := i_le4 h0 hn0
  have hst := iG.2.2.1
  generalize ha1 : xs (4 * j + 1) = a1
  cases hI : inB a1 0 1
  · rcases inB_sp hI with h1 | ⟨h1, h2⟩
    · skip
      refine lw_23 F hJ hS had hj hL ha1 (c_keepU1 (kpI s.k0 s.k1) s.b s.p s.q s.sd s.s0 s.s1 a1 h1) (c_mkeepU (zf s) s.b s.pm s.qm s.s0 s.s1 (kbI s.k0) (kbI s.k1) a1 hI) (by omega) (by omega) rfl rfl [0, 60, 100, 101, 102, 103, 104, 120, 121, 122, 123, 124, 130, 131, 132, 133, 134] [500, 505, 507, 508, 509] rfl rfl (by decide +kernel) (by decide +kernel) (by decide +kernel) rfl rfl (fun r u h => ⟨_, h.1⟩) (fun v u1 r2 u2 hu1 hu2 hp1 hp2 => ?_)
      obtain ⟨hv, rfl⟩ := hp1
      obtain ⟨rfl, rfl⟩ := hp2
      obtain rfl := Value.int.inj (Option.some.inj hv)
      exact ⟨rfl, fin8 K (by decide +kernel) (by decide +kernel) rfl I1⟩
    · skip
      refine lw_23 F hJ hS had hj hL ha1 (c_keepU2 (kpI s.k0 s.k1) s.b s.p s.q s.sd s.s0 s.s1 a1 h1 (show (2 : Int32) ≤ a1 from le_of1 h2)) (c_mkeepU (zf s) s.b s.pm s.qm s.s0 s.s1 (kbI s.k0) (kbI s.k1) a1 hI) (by omega) (by omega) rfl rfl [0, 60, 100, 101, 102, 103, 104, 120, 121, 122, 123, 124, 130, 131, 132, 133, 134] [500, 505, 507, 508, 509] rfl rfl (by decide +kernel) (by decide +kernel) (by decide +kernel) rfl rfl (fun r u h => ⟨_, h.1⟩) (fun v u1 r2 u2 hu1 hu2 hp1 hp2 => ?_)
      obtain ⟨hv, rfl⟩ := hp1
      obtain ⟨rfl, rfl⟩ := hp2
      obtain rfl := Value.int.inj (Option.some.inj hv)
      exact ⟨rfl, fin8 K (by decide +kernel) (by decide +kernel) rfl I1⟩
  · rcases in_2 hI with rfl | rfl
    · skip
      refine lw_23 F hJ hS had hj hL ha1 (c_keep0 (kpI s.k0 s.k1) s.b s.p s.q s.sd s.s0 s.s1) (c_mkeep0 (zf s) s.b s.pm s.qm s.s0 s.s1 (kbI s.k0) (kbI s.k1)) (by omega) (by omega) rfl rfl [0, 60, 100, 101, 102, 103, 104, 120, 121, 122, 123, 124, 130, 131, 132, 133, 134] [500, 505, 507, 508, 509] rfl rfl (by decide +kernel) (by decide +kernel) (by decide +kernel) rfl rfl (fun r u h => ⟨_, h.1⟩) (fun v u1 r2 u2 hu1 hu2 hp1 hp2 => ?_)
      obtain ⟨hv, rfl⟩ := hp1
      obtain ⟨rfl, rfl⟩ := hp2
      obtain rfl := Value.int.inj (Option.some.inj hv)
      exact ⟨rfl, fin9 K s.h s.dh s.b s.tb s.b s.q s.b s.qm s.nb s.w32 s.v32 s.y28 s.ot s.dl s.rb s.rs s.ty s.tx s.ps s.gs s.ls s.st9 s.mt9 s.sd s.ts s.sd s.s1 s.fp s.fd s.lt s.ct s.g2 s.g3 s.g4 s.g5 s.a2 s.a3 s.a4 s.e0 s.e1 s.e2 s.m18 s.m21 s.m22 s.m23 s.m26 s.ab s.t s.ra s.n s.c s.m17 s.m19 s.m20 true s.k1 (by decide +kernel) (by decide +kernel) s.b (Eq25.rf _) (by rw [kp_0]; rfl) rfl ⟨I1.1, I1.2.1, I1.2.2.1, I1.2.2.2.1, I1.2.2.2.2.1, I1.2.2.2.2.2.1, fun _ => ⟨rfl, I1.2.2.2.2.2.1⟩, I1.2.2.2.2.2.2.2⟩⟩
    · skip
      refine lw_23 F hJ hS had hj hL ha1 (c_keep1 (kpI s.k0 s.k1) s.b s.p s.q s.sd s.s0 s.s1) (c_mkeep1 (zf s) s.b s.pm s.qm s.s0 s.s1 (kbI s.k0) (kbI s.k1)) (by omega) (by omega) rfl rfl [0, 60, 100, 101, 102, 103, 104, 120, 121, 122, 123, 124, 130, 131, 132, 133, 134] [500, 505, 507, 508, 509] rfl rfl (by decide +kernel) (by decide +kernel) (by decide +kernel) rfl rfl (fun r u h => ⟨_, h.1⟩) (fun v u1 r2 u2 hu1 hu2 hp1 hp2 => ?_)
      obtain ⟨hv, rfl⟩ := hp1
      obtain ⟨rfl, rfl⟩ := hp2
      obtain rfl := Value.int.inj (Option.some.inj hv)
      exact ⟨rfl, fin9 K s.h s.dh s.b s.tb s.p s.b s.pm s.b s.nb s.w32 s.v32 s.y28 s.ot s.dl s.rb s.rs s.ty s.tx s.ps s.gs s.ls s.st9 s.mt9 s.sd s.ts s.s0 s.sd s.fp s.fd s.lt s.ct s.g2 s.g3 s.g4 s.g5 s.a2 s.a3 s.a4 s.e0 s.e1 s.e2 s.m18 s.m21 s.m22 s.m23 s.m26 s.ab s.t s.ra s.n s.c s.m17 s.m19 s.m20 s.k0 true (by decide +kernel) (by decide +kernel) s.b (Eq25.rf _) (by rw [kp_1]; rfl) rfl ⟨I1.1, I1.2.1, I1.2.2.1, I1.2.2.2.1, I1.2.2.2.2.1, I1.2.2.2.2.2.1, I1.2.2.2.2.2.2.1, fun _ => ⟨rfl, I1.2.2.2.2.2.1⟩⟩⟩
set_option maxRecDepth 100000 in
set_option maxHeartbeats 8000000 in
theorem ca_24 {x : Cx} {nm : String} {d : Nat} (F : Fx x cL_law 4 RL nm (some .boolean) d) (hd : 60 ≤ d) {ad : Nat → Nat} {cells slots : Nat} (hJ : jSx x ad) {b L : Nat} {xs : Nat → Int32} (hS : Sc x b L xs) (had : ad 900 = b) {j m : Nat} (hj : 4 * j + 4 ≤ L) (hL : L ≤ 2048) (K : Nxt x (ad, cells, slots) j m) {s : S9} (I : Iv m s) : J x 4 (ad, cells, slots) (750, [(0, .ref 900), (1, .ref 0), (2, .ref 500), (3, .int (nI (4 * j)))], [], WD9 s) := by
  have I1 := I.up
  obtain ⟨⟨i1, i2, i3, i4⟩, ⟨i5, i6⟩, ⟨i7, i8, i9, i10⟩, ⟨i11, i12⟩, iH, iG, iP, iQ⟩ := I
  obtain ⟨n0, B0, R0, hg⟩ := Hx_Hg iH
  have hn0 := hg.1
  have h0 := hg.2.1
  have hR := Hg_Rok hg
  have hn4 : s.h 0 ≤ 4 := i_le4 h0 hn0
  have hst := iG.2.2.1
  generalize ha1 : xs (4 * j + 1) = a1
  cases hI : inB a1 0 1
  · rcases inB_sp hI with h1 | ⟨h1, h2⟩
    · skip
      refine lw_24 F hJ hS had hj hL ha1 (c_goBackU1 (kpI s.k0 s.k1) s.b s.p s.q s.sd s.s0 s.s1 a1 h1) (c_mgoBackU (zf s) s.b s.pm s.qm s.s0 s.s1 (kbI s.k0) (kbI s.k1) a1 hI) (by omega) (by omega) rfl rfl [0, 60, 100, 101, 102, 103, 104, 120, 121, 122, 123, 124, 130, 131, 132, 133, 134] [500, 505, 507, 508, 509] rfl rfl (by decide +kernel) (by decide +kernel) (by decide +kernel) rfl rfl (fun r u h => ⟨_, h.1⟩) (fun v u1 r2 u2 hu1 hu2 hp1 hp2 => ?_)
      obtain ⟨hv, rfl⟩ := hp1
      obtain ⟨rfl, rfl⟩ := hp2
      obtain rfl := Value.int.inj (Option.some.inj hv)
      exact ⟨rfl, fin8 K (by decide +kernel) (by decide +kernel) rfl I1⟩
    · skip
      refine lw_24 F hJ hS had hj hL ha1 (c_goBackU2 (kpI s.k0 s.k1) s.b s.p s.q s.sd s.s0 s.s1 a1 h1 (show (2 : Int32) ≤ a1 from le_of1 h2)) (c_mgoBackU (zf s) s.b s.pm s.qm s.s0 s.s1 (kbI s.k0) (kbI s.k1) a1 hI) (by omega) (by omega) rfl rfl [0, 60, 100, 101, 102, 103, 104, 120, 121, 122, 123, 124, 130, 131, 132, 133, 134] [500, 505, 507, 508, 509] rfl rfl (by decide +kernel) (by decide +kernel) (by decide +kernel) rfl rfl (fun r u h => ⟨_, h.1⟩) (fun v u1 r2 u2 hu1 hu2 hp1 hp2 => ?_)
      obtain ⟨hv, rfl⟩ := hp1
      obtain ⟨rfl, rfl⟩ := hp2
      obtain rfl := Value.int.inj (Option.some.inj hv)
      exact ⟨rfl, fin8 K (by decide +kernel) (by decide +kernel) rfl I1⟩
  · rcases in_2 hI with rfl | rfl
    · cases hk : s.k0
      · skip
        refine lw_24 F hJ hS had hj hL ha1 (c_back0_0 (kpI s.k0 s.k1) s.b s.p s.q s.sd s.s0 s.s1 ((kp_h0 _ _).trans hk)) (c_mbk0F (zf s) s.b s.pm s.qm s.s0 s.s1 (kbI s.k1) s.k0 hk) (by omega) (by omega) rfl rfl [0, 60, 100, 101, 102, 103, 104, 120, 121, 122, 123, 124, 130, 131, 132, 133, 134] [500, 505, 507, 508, 509] rfl rfl (by decide +kernel) (by decide +kernel) (by decide +kernel) rfl rfl (fun r u h => ⟨_, h.1⟩) (fun v u1 r2 u2 hu1 hu2 hp1 hp2 => ?_)
        obtain ⟨hv, rfl⟩ := hp1
        obtain ⟨rfl, rfl⟩ := hp2
        obtain rfl := Value.int.inj (Option.some.inj hv)
        exact ⟨rfl, fin8 K (by decide +kernel) (by decide +kernel) rfl I1⟩
      · skip
        refine lw_24 F hJ hS had hj hL ha1 (c_back0_1 (kpI s.k0 s.k1) s.b s.p s.q s.sd s.s0 s.s1 ((kp_h0 _ _).trans hk)) (c_mbk0T (zf s) s.b s.pm s.qm s.s0 s.s1 (kbI s.k1) s.k0 hk) (by omega) (by omega) rfl rfl [0, 60, 100, 101, 102, 103, 104, 120, 121, 122, 123, 124, 130, 131, 132, 133, 134] [500, 505, 507, 508, 509] rfl rfl (by decide +kernel) (by decide +kernel) (by decide +kernel) rfl rfl (fun r u h => ⟨_, h.1⟩) (fun v u1 r2 u2 hu1 hu2 hp1 hp2 => ?_)
        obtain ⟨hv, rfl⟩ := hp1
        obtain ⟨rfl, rfl⟩ := hp2
        obtain rfl := Value.int.inj (Option.some.inj hv)
        exact ⟨rfl, fin9 K s.h s.dh s.pm s.tb s.p s.q s.pm s.qm s.nb s.w32 s.v32 s.y28 s.ot s.dl s.rb s.rs s.ty s.tx s.ps s.gs s.ls s.st9 s.mt9 s.s0 s.ts s.s0 s.s1 s.fp s.fd s.lt s.ct s.g2 s.g3 s.g4 s.g5 s.a2 s.a3 s.a4 s.e0 s.e1 s.e2 s.m18 s.m21 s.m22 s.m23 s.m26 s.ab s.t s.ra s.n s.c s.m17 s.m19 s.m20 s.k0 s.k1 (by decide +kernel) (by decide +kernel) s.p (by rw [(I1.2.2.2.2.2.2.1 hk).1]; exact Eq25.rf _) rfl rfl ⟨I1.1, I1.2.1, I1.2.2.1, I1.2.2.2.1, I1.2.2.2.2.1, (by rw [(I1.2.2.2.2.2.2.1 hk).1]; exact (I1.2.2.2.2.2.2.1 hk).2), I1.2.2.2.2.2.2.1, I1.2.2.2.2.2.2.2⟩⟩
    · cases hk : s.k1
      · skip
        refine lw_24 F hJ hS had hj hL ha1 (c_back1_0 (kpI s.k0 s.k1) s.b s.p s.q s.sd s.s0 s.s1 ((kp_h1 _ _).trans hk)) (c_mbk1F (zf s) s.b s.pm s.qm s.s0 s.s1 (kbI s.k0) s.k1 hk) (by omega) (by omega) rfl rfl [0, 60, 100, 101, 102, 103, 104, 120, 121, 122, 123, 124, 130, 131, 132, 133, 134] [500, 505, 507, 508, 509] rfl rfl (by decide +kernel) (by decide +kernel) (by decide +kernel) rfl rfl (fun r u h => ⟨_, h.1⟩) (fun v u1 r2 u2 hu1 hu2 hp1 hp2 => ?_)
        obtain ⟨hv, rfl⟩ := hp1
        obtain ⟨rfl, rfl⟩ := hp2
        obtain rfl := Value.int.inj (Option.some.inj hv)
        exact ⟨rfl, fin8 K (by decide +kernel) (by decide +kernel) rfl I1⟩
      · skip
        refine lw_24 F hJ hS had hj hL ha1 (c_back1_1 (kpI s.k0 s.k1) s.b s.p s.q s.sd s.s0 s.s1 ((kp_h1 _ _).trans hk)) (c_mbk1T (zf s) s.b s.pm s.qm s.s0 s.s1 (kbI s.k0) s.k1 hk) (by omega) (by omega) rfl rfl [0, 60, 100, 101, 102, 103, 104, 120, 121, 122, 123, 124, 130, 131, 132, 133, 134] [500, 505, 507, 508, 509] rfl rfl (by decide +kernel) (by decide +kernel) (by decide +kernel) rfl rfl (fun r u h => ⟨_, h.1⟩) (fun v u1 r2 u2 hu1 hu2 hp1 hp2 => ?_)
        obtain ⟨hv, rfl⟩ := hp1
        obtain ⟨rfl, rfl⟩ := hp2
        obtain rfl := Value.int.inj (Option.some.inj hv)
        exact ⟨rfl, fin9 K s.h s.dh s.qm s.tb s.p s.q s.pm s.qm s.nb s.w32 s.v32 s.y28 s.ot s.dl s.rb s.rs s.ty s.tx s.ps s.gs s.ls s.st9 s.mt9 s.s1 s.ts s.s0 s.s1 s.fp s.fd s.lt s.ct s.g2 s.g3 s.g4 s.g5 s.a2 s.a3 s.a4 s.e0 s.e1 s.e2 s.m18 s.m21 s.m22 s.m23 s.m26 s.ab s.t s.ra s.n s.c s.m17 s.m19 s.m20 s.k0 s.k1 (by decide +kernel) (by decide +kernel) s.q (by rw [(I1.2.2.2.2.2.2.2 hk).1]; exact Eq25.rf _) rfl rfl ⟨I1.1, I1.2.1, I1.2.2.1, I1.2.2.2.1, I1.2.2.2.2.1, (by rw [(I1.2.2.2.2.2.2.2 hk).1]; exact (I1.2.2.2.2.2.2.2 hk).2), I1.2.2.2.2.2.2.1, I1.2.2.2.2.2.2.2⟩⟩
set_option maxRecDepth 100000 in
set_option maxHeartbeats 8000000 in
theorem ca_1 {x : Cx} {nm : String} {d : Nat} (F : Fx x cL_law 4 RL nm (some .boolean) d) (hd : 60 ≤ d) {ad : Nat → Nat} {cells slots : Nat} (hJ : jSx x ad) {b L : Nat} {xs : Nat → Int32} (hS : Sc x b L xs) (had : ad 900 = b) {j m : Nat} (hj : 4 * j + 4 ≤ L) (hL : L ≤ 2048) (K : Nxt x (ad, cells, slots) j m) {s : S9} (I : Iv m s) : J x 4 (ad, cells, slots) (211, [(0, .ref 900), (1, .ref 0), (2, .ref 500), (3, .int (nI (4 * j)))], [], WD9 s) := by
  have I1 := I.up
  obtain ⟨⟨i1, i2, i3, i4⟩, ⟨i5, i6⟩, ⟨i7, i8, i9, i10⟩, ⟨i11, i12⟩, iH, iG, iP, iQ⟩ := I
  obtain ⟨n0, B0, R0, hg⟩ := Hx_Hg iH
  have hn0 := hg.1
  have h0 := hg.2.1
  have hR := Hg_Rok hg
  have hn4 : s.h 0 ≤ 4 := i_le4 h0 hn0
  have hst := iG.2.2.1
  by_cases hE : (rdE s.ty s.t).1.2.2 = 0
  · have hH := rdE_Hx hE
    refine lw_1 F hJ hS had hj hL (c_chamT (kpI s.k0 s.k1) s.ty i1 s.t i3 s.ra s.fp s.fd s.lt s.ct s.dh s.h s.b (gi [0, nI s.n, s.g2, s.g3, s.g4, s.g5]) s.sd (nI s.c) hE) (c_mchamT (zf s) s.tx s.ty i2 s.t i3 i4 s.m17 s.m18 s.m19 s.m20 s.m21 s.m22 s.m23 s.dl s.h s.b s.e0 s.e1 s.e2 (kbI s.k0) (kbI s.k1) hE) (by omega) (by omega) rfl rfl [0, 20, 21, 25, 26, 27, 28, 10, 11, 12, 13, 100, 101, 102, 103, 104, 30, 50] [500, 501, 503, 504, 502, 505, 509] rfl rfl (by decide +kernel) (by decide +kernel) (by decide +kernel) rfl rfl (fun r u h => ⟨_, h.1⟩) (fun v u1 r2 u2 hu1 hu2 hp1 hp2 => ?_)
    obtain ⟨hv, rfl⟩ := hp1
    obtain ⟨z', dl', x0', x1', x2', g0, ⟨g1, g15, g16, g11, g14⟩, rfl, rfl⟩ := hp2
    obtain rfl := Value.int.inj (Option.some.inj hv)
    obtain ⟨y17, hy17⟩ := nI_onto (z' 17)
    obtain ⟨y19, hy19⟩ := nI_onto (z' 19)
    obtain ⟨y20, hy20⟩ := nI_onto (z' 20)
    exact ⟨rfl, fin9 K (rdE s.ty s.t).2.2 (rdE s.ty s.t).2.2 (bgH (rdE s.ty s.t).2.2) s.tb s.p s.q s.pm s.qm s.nb s.w32 s.v32 s.y28 s.ot (gi dl') s.rb s.rs s.ty s.tx s.ps s.gs s.ls s.st9 s.mt9 s.sd s.ts s.s0 s.s1 (rdE s.ty s.t).1.2.1 (rdE s.ty s.t).1.2.2 (rdE s.ty s.t).2.1.1 (rdE s.ty s.t).2.1.2 s.g2 s.g3 s.g4 s.g5 s.a2 s.a3 s.a4 x0' x1' x2' (z' 18) (z' 21) (z' 22) (z' 23) (z' 26) s.ab 0 (rdE s.ty s.t).1.1 0 0 y17 y19 y20 false false (by decide +kernel) (by decide +kernel) (opn (rdE s.ty s.t).2.2) (bgH_opn hH).sy (by rw [(show mO z' = .inl (7, [.ref 501, .int (nI 0), .ref 502, .ref 503, .ref 504, .ref 505, .ref 506, .ref 507, .ref 508, .ref 509, .ref 510, .int (nI 0), .ref 511, .ref 512, .int (nI 0), .int s.sd, .int (rdE s.ty s.t).1.2.1, .int (nI y17), .int (z' 18), .int (nI y19), .int (nI y20), .int (z' 21), .int (z' 22), .int (z' 23), .ref 513, .ref 514, .int (z' 26)]) by unfold mO; rw [g1, g11, g14, g15, g16, hy17, hy19, hy20, rdE_pl hE]; rfl), a14_gi g0]; rfl) rfl ⟨⟨i1, i2, Nat.zero_le _, fun k h => absurd h (Nat.not_lt_zero k)⟩, ⟨i5, Nat.zero_le _⟩, ⟨i7, i8, Nat.zero_le _, fun i h => absurd h (Nat.not_lt_zero i), fun i h => absurd h (Nat.not_lt_zero i)⟩, ⟨i11, i12⟩, hH, GM.c25 (bgH_opn hH).sy ((GM_opn hH).mono (Nat.zero_le _)), (fun h => absurd h (by decide)), (fun h => absurd h (by decide))⟩⟩
  · skip
    refine lw_1 F hJ hS had hj hL (c_chamF (kpI s.k0 s.k1) s.ty i1 s.t i3 s.ra s.fp s.fd s.lt s.ct s.dh s.h s.b (gi [0, nI s.n, s.g2, s.g3, s.g4, s.g5]) s.sd (nI s.c) hE) (c_mchamF (zf s) s.tx s.ty i2 s.t i3 i4 s.m17 s.m18 s.m19 s.m20 s.m21 s.m22 s.m23 s.dl s.h s.b s.e0 s.e1 s.e2 (kbI s.k0) (kbI s.k1) hE) (by omega) (by omega) rfl rfl [0, 20, 21, 25, 26, 27, 28, 10, 11, 12, 13, 100, 101, 102, 103, 104, 30, 50] [500, 501, 503, 504, 502, 505, 509] rfl rfl (by decide +kernel) (by decide +kernel) (by decide +kernel) rfl rfl (fun r u h => ⟨_, h.1⟩) (fun v u1 r2 u2 hu1 hu2 hp1 hp2 => ?_)
    obtain ⟨hv, rfl⟩ := hp1
    obtain ⟨z', dl', x0', x1', x2', g0, ⟨g1, g15, g16, g11, g14⟩, rfl, rfl⟩ := hp2
    obtain rfl := Value.int.inj (Option.some.inj hv)
    obtain ⟨y17, hy17⟩ := nI_onto (z' 17)
    obtain ⟨y19, hy19⟩ := nI_onto (z' 19)
    obtain ⟨y20, hy20⟩ := nI_onto (z' 20)
    exact ⟨rfl, fin9 K s.h (rdE s.ty s.t).2.2 s.b s.tb s.p s.q s.pm s.qm s.nb s.w32 s.v32 s.y28 s.ot (gi dl') s.rb s.rs s.ty s.tx s.ps s.gs s.ls s.st9 s.mt9 s.sd s.ts s.s0 s.s1 (rdE s.ty s.t).1.2.1 (rdE s.ty s.t).1.2.2 (rdE s.ty s.t).2.1.1 (rdE s.ty s.t).2.1.2 s.g2 s.g3 s.g4 s.g5 s.a2 s.a3 s.a4 x0' x1' x2' (z' 18) (z' 21) (z' 22) (z' 23) (z' 26) s.ab 0 (rdE s.ty s.t).1.1 s.n s.c y17 y19 y20 s.k0 s.k1 (by decide +kernel) (by decide +kernel) s.b (Eq25.rf _) (by rw [(show mO z' = .inl (7, [.ref 501, .int (nI 0), .ref 502, .ref 503, .ref 504, .ref 505, .ref 506, .ref 507, .ref 508, .ref 509, .ref 510, .int (nI s.n), .ref 511, .ref 512, .int (nI s.c), .int s.sd, .int (rdE s.ty s.t).1.2.1, .int (nI y17), .int (z' 18), .int (nI y19), .int (nI y20), .int (z' 21), .int (z' 22), .int (z' 23), .ref 513, .ref 514, .int (z' 26)]) by unfold mO; rw [g1, g11, g14, g15, g16, hy17, hy19, hy20]; rfl), a14_gi g0]; rfl) rfl ⟨⟨i1, i2, Nat.zero_le _, fun k h => absurd h (Nat.not_lt_zero k)⟩, I1.2.1, I1.2.2.1, I1.2.2.2.1, I1.2.2.2.2.1, I1.2.2.2.2.2.1, I1.2.2.2.2.2.2.1, I1.2.2.2.2.2.2.2⟩⟩
