set_option maxRecDepth 100000 in
set_option maxHeartbeats 8000000 in
theorem ca_9 {x : Cx} {nm : String} {d : Nat} (F : Fx x cL_law 4 RL nm (some .boolean) d) (hd : 60 ≤ d) {ad : Nat → Nat} {cells slots : Nat} (hJ : jSx x ad) {b L : Nat} {xs : Nat → Int32} (hS : Sc x b L xs) (had : ad 900 = b) {j m : Nat} (hj : 4 * j + 4 ≤ L) (hL : L ≤ 2048) (K : Nxt x (ad, cells, slots) j m) {s : S9} (I : Iv m s) : J x 4 (ad, cells, slots) (415, [(0, .ref 900), (1, .ref 0), (2, .ref 500), (3, .int (nI (4 * j)))], [], WD9 s) := by
  have I1 := I.up
  obtain ⟨⟨i1, i2, i3, i4⟩, ⟨i5, i6⟩, ⟨i7, i8, i9, i10⟩, ⟨i11, i12⟩, iH, iG, iP, iQ⟩ := I
  obtain ⟨n0, B0, R0, hg⟩ := Hx_Hg iH
  have hn0 := hg.1
  have h0 := hg.2.1
  have hR := Hg_Rok hg
  have hn4 : s.h 0 ≤ 4 := i_le4 h0 hn0
  have hst := iG.2.2.1
  generalize ha1 : xs (4 * j + 1) = a1
  cases hA : amB a1 (s.h 0)
  · skip
    refine lw_9 F hJ hS had hj hL ha1 (c_plan_u (kpI s.k0 s.k1) (gi [s.g2, s.g3, s.g4, s.g5]) s.h s.ps s.n a1 hA) (c_mplan_u (zf s) s.h s.ps s.n a1 ((am_in hn0 h0 a1).symm.trans hA)) (by omega) (by omega) rfl rfl [0, 30, 31, 10] [500, 502, 510] rfl rfl (by decide +kernel) (by decide +kernel) (by decide +kernel) rfl rfl (fun r u h => ⟨_, h.1⟩) (fun v u1 r2 u2 hu1 hu2 hp1 hp2 => ?_)
    obtain ⟨hv, rfl⟩ := hp1
    obtain ⟨rfl, rfl⟩ := hp2
    obtain rfl := Value.int.inj (Option.some.inj hv)
    exact ⟨rfl, fin8 K (by decide +kernel) (by decide +kernel) rfl I1⟩
  · by_cases hn : s.n < 30
    · skip
      refine lw_9 F hJ hS had hj hL ha1 (c_plan_t (kpI s.k0 s.k1) (gi [s.g2, s.g3, s.g4, s.g5]) s.h s.ps i5 s.n hn a1 hA) (c_mplan_t (zf s) s.h s.ps i5 s.n hn a1 ((am_in hn0 h0 a1).symm.trans hA)) (by omega) (by omega) rfl rfl [0, 30, 31, 10] [500, 502, 510] rfl rfl (by decide +kernel) (by decide +kernel) (by decide +kernel) rfl rfl (fun r u h => ⟨_, h.1⟩) (fun v u1 r2 u2 hu1 hu2 hp1 hp2 => ?_)
      obtain ⟨hv, rfl⟩ := hp1
      obtain ⟨rfl, rfl⟩ := hp2
      obtain rfl := Value.int.inj (Option.some.inj hv)
      exact ⟨rfl, fin9 K s.h s.dh s.b s.tb s.p s.q s.pm s.qm s.nb s.w32 s.v32 s.y28 s.ot s.dl s.rb s.rs s.ty s.tx (s.ps.set s.n a1) s.gs s.ls s.st9 s.mt9 s.sd s.ts s.s0 s.s1 s.fp s.fd s.lt s.ct s.g2 s.g3 s.g4 s.g5 s.a2 s.a3 s.a4 s.e0 s.e1 s.e2 s.m18 s.m21 s.m22 s.m23 s.m26 s.ab s.t s.ra (s.n + 1) s.c s.m17 s.m19 s.m20 s.k0 s.k1 (by decide +kernel) (by decide +kernel) s.b (Eq25.rf _) rfl rfl ⟨I1.1, ⟨(List.length_set).trans i5, hn⟩, I1.2.2.1, I1.2.2.2.1, I1.2.2.2.2.1, I1.2.2.2.2.2.1, I1.2.2.2.2.2.2.1, I1.2.2.2.2.2.2.2⟩⟩
    · have hn3 : s.n = 30 := by omega
      refine lw_9 F hJ hS had hj hL ha1 (c_planG (kpI s.k0 s.k1) (gi [s.g2, s.g3, s.g4, s.g5]) s.h s.ps s.n hn3 a1 hA) (c_mplanG (zf s) s.h s.ps s.n hn3 a1 ((am_in hn0 h0 a1).symm.trans hA)) (by omega) (by omega) rfl rfl [0, 30, 31, 10] [500, 502, 510] rfl rfl (by decide +kernel) (by decide +kernel) (by decide +kernel) rfl rfl (fun r u h => ⟨_, h.1⟩) (fun v u1 r2 u2 hu1 hu2 hp1 hp2 => ?_)
      obtain ⟨hv, rfl⟩ := hp1
      obtain ⟨rfl, rfl⟩ := hp2
      obtain rfl := Value.int.inj (Option.some.inj hv)
      exact ⟨rfl, fin8 K (by decide +kernel) (by decide +kernel) rfl I1⟩
set_option maxRecDepth 100000 in
set_option maxHeartbeats 8000000 in
theorem ca_5 {x : Cx} {nm : String} {d : Nat} (F : Fx x cL_law 4 RL nm (some .boolean) d) (hd : 60 ≤ d) {ad : Nat → Nat} {cells slots : Nat} (hJ : jSx x ad) {b L : Nat} {xs : Nat → Int32} (hS : Sc x b L xs) (had : ad 900 = b) {j m : Nat} (hj : 4 * j + 4 ≤ L) (hL : L ≤ 2048) (K : Nxt x (ad, cells, slots) j m) {s : S9} (I : Iv m s) : J x 4 (ad, cells, slots) (293, [(0, .ref 900), (1, .ref 0), (2, .ref 500), (3, .int (nI (4 * j)))], [], WD9 s) := by
  have I1 := I.up
  obtain ⟨⟨i1, i2, i3, i4⟩, ⟨i5, i6⟩, ⟨i7, i8, i9, i10⟩, ⟨i11, i12⟩, iH, iG, iP, iQ⟩ := I
  obtain ⟨n0, B0, R0, hg⟩ := Hx_Hg iH
  have hn0 := hg.1
  have h0 := hg.2.1
  have hR := Hg_Rok hg
  have hn4 : s.h 0 ≤ 4 := i_le4 h0 hn0
  have hst := iG.2.2.1
  generalize ha1 : xs (4 * j + 1) = a1
  cases hA : amB a1 (s.h 0)
  · skip
    refine lw_5 F hJ hS had hj hL ha1 (c_beat_u (kpI s.k0 s.k1) s.h s.b s.sd a1 hA) (c_mbeat_u (zf s) s.h s.b s.nb a1 ((am_in hn0 h0 a1).symm.trans hA)) (by omega) (by omega) rfl rfl [0, 10, 11, 12, 100, 101, 102, 103, 104] [500, 502, 505, 506] rfl rfl (by decide +kernel) (by decide +kernel) (by decide +kernel) rfl rfl (fun r u h => ⟨_, h.1⟩) (fun v u1 r2 u2 hu1 hu2 hp1 hp2 => ?_)
    obtain ⟨hv, rfl⟩ := hp1
    obtain ⟨rfl, rfl⟩ := hp2
    obtain rfl := Value.int.inj (Option.some.inj hv)
    exact ⟨rfl, fin8 K (by decide +kernel) (by decide +kernel) rfl I1⟩
  · obtain ⟨q1, q2⟩ := mplay_ext iG.1 (Eq25_mcp s.b) a1
    have E := ((mtk_25 s.b (mplay s.h (mcp s.b) a1)).tr q1).sy
    refine lw_5 F hJ hS had hj hL ha1 (c_beat_t (kpI s.k0 s.k1) s.h s.b s.sd a1 hA) (c_mbeat_t (zf s) s.h s.b s.nb a1 ((am_in hn0 h0 a1).symm.trans hA) hn4 hst) (by omega) (by omega) rfl rfl [0, 10, 11, 12, 100, 101, 102, 103, 104] [500, 502, 505, 506] rfl rfl (by decide +kernel) (by decide +kernel) (by decide +kernel) rfl rfl (fun r u h => ⟨_, h.1⟩) (fun v u1 r2 u2 hu1 hu2 hp1 hp2 => ?_)
    obtain ⟨hv, rfl⟩ := hp1
    obtain ⟨rfl, rfl⟩ := hp2
    obtain rfl := Value.int.inj (Option.some.inj hv)
    exact ⟨(sI q2), fin9 K s.h s.dh (mtk s.b (mplay s.h (mcp s.b) a1)) s.tb s.p s.q s.pm s.qm (mplay s.h (mcp s.b) a1) s.w32 s.v32 s.y28 s.ot s.dl s.rb s.rs s.ty s.tx s.ps s.gs s.ls s.st9 s.mt9 s.sd s.ts s.s0 s.s1 s.fp s.fd s.lt s.ct s.g2 s.g3 s.g4 s.g5 s.a2 s.a3 s.a4 s.e0 s.e1 s.e2 s.m18 s.m21 s.m22 s.m23 s.m26 s.ab s.t s.ra s.n s.c s.m17 s.m19 s.m20 s.k0 s.k1 (by decide +kernel) (by decide +kernel) (play s.h s.b a1) E rfl rfl ⟨I1.1, I1.2.1, I1.2.2.1, I1.2.2.2.1, I1.2.2.2.2.1, (GM.c25 E ((iG.play hR h0 hn0 a1).mono (by omega))), I1.2.2.2.2.2.2.1, I1.2.2.2.2.2.2.2⟩⟩
set_option maxRecDepth 100000 in
set_option maxHeartbeats 8000000 in
theorem ca_6 {x : Cx} {nm : String} {d : Nat} (F : Fx x cL_law 4 RL nm (some .boolean) d) (hd : 60 ≤ d) {ad : Nat → Nat} {cells slots : Nat} (hJ : jSx x ad) {b L : Nat} {xs : Nat → Int32} (hS : Sc x b L xs) (had : ad 900 = b) {j m : Nat} (hj : 4 * j + 4 ≤ L) (hL : L ≤ 2048) (K : Nxt x (ad, cells, slots) j m) {s : S9} (I : Iv m s) : J x 4 (ad, cells, slots) (316, [(0, .ref 900), (1, .ref 0), (2, .ref 500), (3, .int (nI (4 * j)))], [], WD9 s) := by
  have I1 := I.up
  obtain ⟨⟨i1, i2, i3, i4⟩, ⟨i5, i6⟩, ⟨i7, i8, i9, i10⟩, ⟨i11, i12⟩, iH, iG, iP, iQ⟩ := I
  obtain ⟨n0, B0, R0, hg⟩ := Hx_Hg iH
  have hn0 := hg.1
  have h0 := hg.2.1
  have hR := Hg_Rok hg
  have hn4 : s.h 0 ≤ 4 := i_le4 h0 hn0
  have hst := iG.2.2.1
  generalize ha1 : xs (4 * j + 1) = a1
  generalize ha2 : xs (4 * j + 2) = a2
  cases hM : imB a1 (s.h 0)
  · skip
    refine lw_6 F hJ hS had hj hL ha1 ha2 (c_themeU (kpI s.k0 s.k1) s.h s.b s.sd a1 a2 hM) (c_mthemeU (zf s) s.h s.b a1 a2 ((im_in hn0 h0 a1).symm.trans hM)) (by omega) (by omega) rfl rfl [0, 10, 100, 103] [500, 502, 505] rfl rfl (by decide +kernel) (by decide +kernel) (by decide +kernel) rfl rfl (fun r u h => ⟨_, h.1⟩) (fun v u1 r2 u2 hu1 hu2 hp1 hp2 => ?_)
    obtain ⟨hv, rfl⟩ := hp1
    obtain ⟨rfl, rfl⟩ := hp2
    obtain rfl := Value.int.inj (Option.some.inj hv)
    exact ⟨rfl, fin8 K (by decide +kernel) (by decide +kernel) rfl I1⟩
  · rcases imB_4 hM with rfl | rfl | rfl | rfl
    · cases hN : inB a2 0 99
      · skip
        refine lw_6 F hJ hS had hj hL ha1 ha2 (c_theme0 (kpI s.k0 s.k1) s.h s.b s.sd a2 hM) (c_mthemeO (zf s) s.h s.b 0 a2 ((im_in hn0 h0 0).symm.trans hM) hN) (by omega) (by omega) rfl rfl [0, 10, 100, 103] [500, 502, 505] rfl rfl (by decide +kernel) (by decide +kernel) (by decide +kernel) rfl rfl (fun r u h => by have h : (r, u) = _ := h; split at h <;> exact ⟨_, (Prod.mk.inj h).1⟩) (fun v u1 r2 u2 hu1 hu2 hp1 hp2 => ?_)
        have hp1 : (some (Value.int v), u1) = _ := hp1
        rw [if_neg (by rw [hN]; decide)] at hp1
        obtain ⟨hv, rfl⟩ := Prod.mk.inj hp1
        obtain ⟨rfl, rfl⟩ := hp2
        obtain rfl := Value.int.inj (Option.some.inj hv)
        exact ⟨rfl, fin8 K (by decide +kernel) (by decide +kernel) rfl I1⟩
      · skip
        refine lw_6 F hJ hS had hj hL ha1 ha2 (c_theme0 (kpI s.k0 s.k1) s.h s.b s.sd a2 hM) (c_mtheme0 (zf s) s.h s.b a2 ((im_in hn0 h0 0).symm.trans hM) hN) (by omega) (by omega) rfl rfl [0, 10, 100, 103] [500, 502, 505] rfl rfl (by decide +kernel) (by decide +kernel) (by decide +kernel) rfl rfl (fun r u h => by have h : (r, u) = _ := h; split at h <;> exact ⟨_, (Prod.mk.inj h).1⟩) (fun v u1 r2 u2 hu1 hu2 hp1 hp2 => ?_)
        have hp1 : (some (Value.int v), u1) = _ := hp1
        rw [if_pos hN] at hp1
        obtain ⟨hv, rfl⟩ := Prod.mk.inj hp1
        obtain ⟨rfl, rfl⟩ := hp2
        obtain rfl := Value.int.inj (Option.some.inj hv)
        exact ⟨rfl, fin9 K s.h s.dh (thB s.b a2 (s.b 18) (s.b 19) (s.b 20)) s.tb s.p s.q s.pm s.qm s.nb s.w32 s.v32 s.y28 s.ot s.dl s.rb s.rs s.ty s.tx s.ps s.gs s.ls s.st9 s.mt9 s.sd s.ts s.s0 s.s1 s.fp s.fd s.lt s.ct s.g2 s.g3 s.g4 s.g5 s.a2 s.a3 s.a4 s.e0 s.e1 s.e2 s.m18 s.m21 s.m22 s.m23 s.m26 s.ab s.t s.ra s.n s.c s.m17 s.m19 s.m20 s.k0 s.k1 (by decide +kernel) (by decide +kernel) (thB s.b a2 (s.b 18) (s.b 19) (s.b 20)) (Eq25.rf _) rfl rfl ⟨I1.1, I1.2.1, I1.2.2.1, I1.2.2.2.1, I1.2.2.2.2.1, (GM.thB I1.2.2.2.2.2.1 hN (iG.w99 (m := 1) (by decide)) (iG.w99 (m := 2) (by decide)) (iG.w99 (m := 3) (by decide)) (fun z => absurd z (imB_nle hM)) (fun z => (iG.2.1.2.1 z).1) (fun z => (iG.2.1.2.2.1 z).1) (fun z => (iG.2.1.2.2.2 z).1)), I1.2.2.2.2.2.2.1, I1.2.2.2.2.2.2.2⟩⟩
    · cases hN : inB a2 0 99
      · skip
        refine lw_6 F hJ hS had hj hL ha1 ha2 (c_theme1 (kpI s.k0 s.k1) s.h s.b s.sd a2 hM) (c_mthemeO (zf s) s.h s.b 1 a2 ((im_in hn0 h0 1).symm.trans hM) hN) (by omega) (by omega) rfl rfl [0, 10, 100, 103] [500, 502, 505] rfl rfl (by decide +kernel) (by decide +kernel) (by decide +kernel) rfl rfl (fun r u h => by have h : (r, u) = _ := h; split at h <;> exact ⟨_, (Prod.mk.inj h).1⟩) (fun v u1 r2 u2 hu1 hu2 hp1 hp2 => ?_)
        have hp1 : (some (Value.int v), u1) = _ := hp1
        rw [if_neg (by rw [hN]; decide)] at hp1
        obtain ⟨hv, rfl⟩ := Prod.mk.inj hp1
        obtain ⟨rfl, rfl⟩ := hp2
        obtain rfl := Value.int.inj (Option.some.inj hv)
        exact ⟨rfl, fin8 K (by decide +kernel) (by decide +kernel) rfl I1⟩
      · skip
        refine lw_6 F hJ hS had hj hL ha1 ha2 (c_theme1 (kpI s.k0 s.k1) s.h s.b s.sd a2 hM) (c_mtheme1 (zf s) s.h s.b a2 ((im_in hn0 h0 1).symm.trans hM) hN) (by omega) (by omega) rfl rfl [0, 10, 100, 103] [500, 502, 505] rfl rfl (by decide +kernel) (by decide +kernel) (by decide +kernel) rfl rfl (fun r u h => by have h : (r, u) = _ := h; split at h <;> exact ⟨_, (Prod.mk.inj h).1⟩) (fun v u1 r2 u2 hu1 hu2 hp1 hp2 => ?_)
        have hp1 : (some (Value.int v), u1) = _ := hp1
        rw [if_pos hN] at hp1
        obtain ⟨hv, rfl⟩ := Prod.mk.inj hp1
        obtain ⟨rfl, rfl⟩ := hp2
        obtain rfl := Value.int.inj (Option.some.inj hv)
        exact ⟨rfl, fin9 K s.h s.dh (thB s.b (s.b 17) a2 (s.b 19) (s.b 20)) s.tb s.p s.q s.pm s.qm s.nb s.w32 s.v32 s.y28 s.ot s.dl s.rb s.rs s.ty s.tx s.ps s.gs s.ls s.st9 s.mt9 s.sd s.ts s.s0 s.s1 s.fp s.fd s.lt s.ct s.g2 s.g3 s.g4 s.g5 s.a2 s.a3 s.a4 s.e0 s.e1 s.e2 s.m18 s.m21 s.m22 s.m23 s.m26 s.ab s.t s.ra s.n s.c s.m17 s.m19 s.m20 s.k0 s.k1 (by decide +kernel) (by decide +kernel) (thB s.b (s.b 17) a2 (s.b 19) (s.b 20)) (Eq25.rf _) rfl rfl ⟨I1.1, I1.2.1, I1.2.2.1, I1.2.2.2.1, I1.2.2.2.2.1, (GM.thB I1.2.2.2.2.2.1 (iG.w99 (m := 0) (by decide)) hN (iG.w99 (m := 2) (by decide)) (iG.w99 (m := 3) (by decide)) (fun z => (iG.2.1.1 z).1) (fun z => absurd z (imB_nle hM)) (fun z => (iG.2.1.2.2.1 z).1) (fun z => (iG.2.1.2.2.2 z).1)), I1.2.2.2.2.2.2.1, I1.2.2.2.2.2.2.2⟩⟩
    · cases hN : inB a2 0 99
      · skip
        refine lw_6 F hJ hS had hj hL ha1 ha2 (c_theme2 (kpI s.k0 s.k1) s.h s.b s.sd a2 hM) (c_mthemeO (zf s) s.h s.b 2 a2 ((im_in hn0 h0 2).symm.trans hM) hN) (by omega) (by omega) rfl rfl [0, 10, 100, 103] [500, 502, 505] rfl rfl (by decide +kernel) (by decide +kernel) (by decide +kernel) rfl rfl (fun r u h => by have h : (r, u) = _ := h; split at h <;> exact ⟨_, (Prod.mk.inj h).1⟩) (fun v u1 r2 u2 hu1 hu2 hp1 hp2 => ?_)
        have hp1 : (some (Value.int v), u1) = _ := hp1
        rw [if_neg (by rw [hN]; decide)] at hp1
        obtain ⟨hv, rfl⟩ := Prod.mk.inj hp1
        obtain ⟨rfl, rfl⟩ := hp2
        obtain rfl := Value.int.inj (Option.some.inj hv)
        exact ⟨rfl, fin8 K (by decide +kernel) (by decide +kernel) rfl I1⟩
      · skip
        refine lw_6 F hJ hS had hj hL ha1 ha2 (c_theme2 (kpI s.k0 s.k1) s.h s.b s.sd a2 hM) (c_mtheme2 (zf s) s.h s.b a2 ((im_in hn0 h0 2).symm.trans hM) hN) (by omega) (by omega) rfl rfl [0, 10, 100, 103] [500, 502, 505] rfl rfl (by decide +kernel) (by decide +kernel) (by decide +kernel) rfl rfl (fun r u h => by have h : (r, u) = _ := h; split at h <;> exact ⟨_, (Prod.mk.inj h).1⟩) (fun v u1 r2 u2 hu1 hu2 hp1 hp2 => ?_)
        have hp1 : (some (Value.int v), u1) = _ := hp1
        rw [if_pos hN] at hp1
        obtain ⟨hv, rfl⟩ := Prod.mk.inj hp1
        obtain ⟨rfl, rfl⟩ := hp2
        obtain rfl := Value.int.inj (Option.some.inj hv)
        exact ⟨rfl, fin9 K s.h s.dh (thB s.b (s.b 17) (s.b 18) a2 (s.b 20)) s.tb s.p s.q s.pm s.qm s.nb s.w32 s.v32 s.y28 s.ot s.dl s.rb s.rs s.ty s.tx s.ps s.gs s.ls s.st9 s.mt9 s.sd s.ts s.s0 s.s1 s.fp s.fd s.lt s.ct s.g2 s.g3 s.g4 s.g5 s.a2 s.a3 s.a4 s.e0 s.e1 s.e2 s.m18 s.m21 s.m22 s.m23 s.m26 s.ab s.t s.ra s.n s.c s.m17 s.m19 s.m20 s.k0 s.k1 (by decide +kernel) (by decide +kernel) (thB s.b (s.b 17) (s.b 18) a2 (s.b 20)) (Eq25.rf _) rfl rfl ⟨I1.1, I1.2.1, I1.2.2.1, I1.2.2.2.1, I1.2.2.2.2.1, (GM.thB I1.2.2.2.2.2.1 (iG.w99 (m := 0) (by decide)) (iG.w99 (m := 1) (by decide)) hN (iG.w99 (m := 3) (by decide)) (fun z => (iG.2.1.1 z).1) (fun z => (iG.2.1.2.1 z).1) (fun z => absurd z (imB_nle hM)) (fun z => (iG.2.1.2.2.2 z).1)), I1.2.2.2.2.2.2.1, I1.2.2.2.2.2.2.2⟩⟩
    · cases hN : inB a2 0 99
      · skip
        refine lw_6 F hJ hS had hj hL ha1 ha2 (c_theme3 (kpI s.k0 s.k1) s.h s.b s.sd a2 hM) (c_mthemeO (zf s) s.h s.b 3 a2 ((im_in hn0 h0 3).symm.trans hM) hN) (by omega) (by omega) rfl rfl [0, 10, 100, 103] [500, 502, 505] rfl rfl (by decide +kernel) (by decide +kernel) (by decide +kernel) rfl rfl (fun r u h => by have h : (r, u) = _ := h; split at h <;> exact ⟨_, (Prod.mk.inj h).1⟩) (fun v u1 r2 u2 hu1 hu2 hp1 hp2 => ?_)
        have hp1 : (some (Value.int v), u1) = _ := hp1
        rw [if_neg (by rw [hN]; decide)] at hp1
        obtain ⟨hv, rfl⟩ := Prod.mk.inj hp1
        obtain ⟨rfl, rfl⟩ := hp2
        obtain rfl := Value.int.inj (Option.some.inj hv)
        exact ⟨rfl, fin8 K (by decide +kernel) (by decide +kernel) rfl I1⟩
      · skip
        refine lw_6 F hJ hS had hj hL ha1 ha2 (c_theme3 (kpI s.k0 s.k1) s.h s.b s.sd a2 hM) (c_mtheme3 (zf s) s.h s.b a2 ((im_in hn0 h0 3).symm.trans hM) hN) (by omega) (by omega) rfl rfl [0, 10, 100, 103] [500, 502, 505] rfl rfl (by decide +kernel) (by decide +kernel) (by decide +kernel) rfl rfl (fun r u h => by have h : (r, u) = _ := h; split at h <;> exact ⟨_, (Prod.mk.inj h).1⟩) (fun v u1 r2 u2 hu1 hu2 hp1 hp2 => ?_)
        have hp1 : (some (Value.int v), u1) = _ := hp1
        rw [if_pos hN] at hp1
        obtain ⟨hv, rfl⟩ := Prod.mk.inj hp1
        obtain ⟨rfl, rfl⟩ := hp2
        obtain rfl := Value.int.inj (Option.some.inj hv)
        exact ⟨rfl, fin9 K s.h s.dh (thB s.b (s.b 17) (s.b 18) (s.b 19) a2) s.tb s.p s.q s.pm s.qm s.nb s.w32 s.v32 s.y28 s.ot s.dl s.rb s.rs s.ty s.tx s.ps s.gs s.ls s.st9 s.mt9 s.sd s.ts s.s0 s.s1 s.fp s.fd s.lt s.ct s.g2 s.g3 s.g4 s.g5 s.a2 s.a3 s.a4 s.e0 s.e1 s.e2 s.m18 s.m21 s.m22 s.m23 s.m26 s.ab s.t s.ra s.n s.c s.m17 s.m19 s.m20 s.k0 s.k1 (by decide +kernel) (by decide +kernel) (thB s.b (s.b 17) (s.b 18) (s.b 19) a2) (Eq25.rf _) rfl rfl ⟨I1.1, I1.2.1, I1.2.2.1, I1.2.2.2.1, I1.2.2.2.2.1, (GM.thB I1.2.2.2.2.2.1 (iG.w99 (m := 0) (by decide)) (iG.w99 (m := 1) (by decide)) (iG.w99 (m := 2) (by decide)) hN (fun z => (iG.2.1.1 z).1) (fun z => (iG.2.1.2.1 z).1) (fun z => (iG.2.1.2.2.1 z).1) (fun z => absurd z (imB_nle hM))), I1.2.2.2.2.2.2.1, I1.2.2.2.2.2.2.2⟩⟩
set_option maxRecDepth 100000 in
set_option maxHeartbeats 8000000 in
theorem ca_7 {x : Cx} {nm : String} {d : Nat} (F : Fx x cL_law 4 RL nm (some .boolean) d) (hd : 60 ≤ d) {ad : Nat → Nat} {cells slots : Nat} (hJ : jSx x ad) {b L : Nat} {xs : Nat → Int32} (hS : Sc x b L xs) (had : ad 900 = b) {j m : Nat} (hj : 4 * j + 4 ≤ L) (hL : L ≤ 2048) (K : Nxt x (ad, cells, slots) j m) {s : S9} (I : Iv m s) : J x 4 (ad, cells, slots) (349, [(0, .ref 900), (1, .ref 0), (2, .ref 500), (3, .int (nI (4 * j)))], [], WD9 s) := by
  have I1 := I.up
  obtain ⟨⟨i1, i2, i3, i4⟩, ⟨i5, i6⟩, ⟨i7, i8, i9, i10⟩, ⟨i11, i12⟩, iH, iG, iP, iQ⟩ := I
  obtain ⟨n0, B0, R0, hg⟩ := Hx_Hg iH
  have hn0 := hg.1
  have h0 := hg.2.1
  have hR := Hg_Rok hg
  have hn4 : s.h 0 ≤ 4 := i_le4 h0 hn0
  have hst := iG.2.2.1
  generalize ha1 : xs (4 * j + 1) = a1
  generalize ha2 : xs (4 * j + 2) = a2
  generalize ha3 : xs (4 * j + 3) = a3
  cases hN : (inB a1 0 2 && inB a2 0 99 && inB a3 0 99)
  · skip
    refine lw_7 F hJ hS had hj hL ha1 ha2 ha3 (c_law (kpI s.k0 s.k1) s.b s.sd a1 a2 a3) (c_mlaw (zf s) s.b a1 a2 a3) (by omega) (by omega) rfl rfl [0, 100] [500, 505] rfl rfl (by decide +kernel) (by decide +kernel) (by decide +kernel) rfl rfl (fun r u h => by have h : (r, u) = _ := h; split at h <;> exact ⟨_, (Prod.mk.inj h).1⟩) (fun v u1 r2 u2 hu1 hu2 hp1 hp2 => ?_)
    have hp1 : (some (Value.int v), u1) = _ := hp1
    have hp2 : (r2, u2) = _ := hp2
    rw [ik_in] at hp1
    rw [if_neg (show ¬ (inB a1 0 2 && inB a2 0 99 && inB a3 0 99) = true by rw [hN]; decide)] at hp1
    rw [if_neg (show ¬ (inB a1 0 2 && inB a2 0 99 && inB a3 0 99) = true by rw [hN]; decide)] at hp2
    obtain ⟨hv, rfl⟩ := Prod.mk.inj hp1
    obtain ⟨rfl, rfl⟩ := Prod.mk.inj hp2
    obtain rfl := Value.int.inj (Option.some.inj hv)
    exact ⟨rfl, fin8 K (by decide +kernel) (by decide +kernel) rfl I1⟩
  · obtain ⟨hN1, hN3⟩ := Bool.and_eq_true_iff.mp hN
    obtain ⟨hN1, hN2⟩ := Bool.and_eq_true_iff.mp hN1
    refine lw_7 F hJ hS had hj hL ha1 ha2 ha3 (c_law (kpI s.k0 s.k1) s.b s.sd a1 a2 a3) (c_mlaw (zf s) s.b a1 a2 a3) (by omega) (by omega) rfl rfl [0, 100] [500, 505] rfl rfl (by decide +kernel) (by decide +kernel) (by decide +kernel) rfl rfl (fun r u h => by have h : (r, u) = _ := h; split at h <;> exact ⟨_, (Prod.mk.inj h).1⟩) (fun v u1 r2 u2 hu1 hu2 hp1 hp2 => ?_)
    have hp1 : (some (Value.int v), u1) = _ := hp1
    have hp2 : (r2, u2) = _ := hp2
    rw [ik_in] at hp1
    rw [if_pos (show (inB a1 0 2 && inB a2 0 99 && inB a3 0 99) = true from hN)] at hp1
    rw [if_pos (show (inB a1 0 2 && inB a2 0 99 && inB a3 0 99) = true from hN)] at hp2
    obtain ⟨hv, rfl⟩ := Prod.mk.inj hp1
    obtain ⟨rfl, rfl⟩ := Prod.mk.inj hp2
    obtain rfl := Value.int.inj (Option.some.inj hv)
    exact ⟨rfl, fin9 K s.h s.dh (lwB s.b a1 a2 a3) s.tb s.p s.q s.pm s.qm s.nb s.w32 s.v32 s.y28 s.ot s.dl s.rb s.rs s.ty s.tx s.ps s.gs s.ls s.st9 s.mt9 s.sd s.ts s.s0 s.s1 s.fp s.fd s.lt s.ct s.g2 s.g3 s.g4 s.g5 s.a2 s.a3 s.a4 s.e0 s.e1 s.e2 s.m18 s.m21 s.m22 s.m23 s.m26 s.ab s.t s.ra s.n s.c s.m17 s.m19 s.m20 s.k0 s.k1 (by decide +kernel) (by decide +kernel) (lwB s.b a1 a2 a3) (Eq25.rf _) rfl rfl ⟨I1.1, I1.2.1, I1.2.2.1, I1.2.2.2.1, I1.2.2.2.2.1, (GM.lwB I1.2.2.2.2.2.1 hN1 hN2 hN3), I1.2.2.2.2.2.2.1, I1.2.2.2.2.2.2.2⟩⟩
