set_option maxRecDepth 100000 in
set_option maxHeartbeats 8000000 in
theorem ca_0 {x : Cx} {nm : String} {d : Nat} (F : Fx x cL_law 4 RL nm (some .boolean) d) (hd : 60 ≤ d) {ad : Nat → Nat} {cells slots : Nat} (hJ : jSx x ad) {b L : Nat} {xs : Nat → Int32} (hS : Sc x b L xs) (had : ad 900 = b) {j m : Nat} (hj : 4 * j + 4 ≤ L) (hL : L ≤ 2048) (K : Nxt x (ad, cells, slots) j m) {s : S9} (I : Iv m s) : J x 4 (ad, cells, slots) (148, [(0, .ref 900), (1, .ref 0), (2, .ref 500), (3, .int (nI (4 * j)))], [], WD9 s) := by
  have I1 := I.up
  obtain ⟨⟨i1, i2, i3, i4⟩, ⟨i5, i6⟩, ⟨i7, i8, i9, i10⟩, ⟨i11, i12⟩, iH, iG, iP, iQ⟩ := I
  obtain ⟨n0, B0, R0, hg⟩ := Hx_Hg iH
  have hn0 := hg.1
  have h0 := hg.2.1
  have hR := Hg_Rok hg
  have hn4 : s.h 0 ≤ 4 := i_le4 h0 hn0
  have hst := iG.2.2.1
  generalize ha1 : xs (4 * j + 1) = a1
  generalize hvv : (((Int32.toInt64 (xs (4 * j + 2))) <<< (Int32.toInt64 32 &&& 63)) ||| ((Int32.toInt64 (xs (4 * j + 3))) &&& 4294967295)) = vv
  cases hI : inB a1 1 8
  · rcases inB_sp hI with h1 | ⟨h1, h2⟩
    · skip
      refine lw_0 F hJ hS had hj hL ha1 hvv (c_feedO1 (kpI s.k0 s.k1) s.ty i1 s.t s.ra s.fp s.fd s.lt s.ct a1 _ h1) (c_mfeedO (zf s) s.tx s.t a1 _ hI) (by omega) (by omega) rfl rfl [0, 20, 21] [500, 501] rfl rfl (by decide +kernel) (by decide +kernel) (by decide +kernel) rfl rfl (fun r u h => ⟨_, h.1⟩) (fun v u1 r2 u2 hu1 hu2 hp1 hp2 => ?_)
      obtain ⟨hv, rfl⟩ := hp1
      obtain ⟨rfl, rfl⟩ := hp2
      obtain rfl := Value.int.inj (Option.some.inj hv)
      exact ⟨rfl, fin8 K (by decide +kernel) (by decide +kernel) rfl I1⟩
    · skip
      refine lw_0 F hJ hS had hj hL ha1 hvv (c_feedO2 (kpI s.k0 s.k1) s.ty i1 s.t s.ra s.fp s.fd s.lt s.ct a1 _ h1 h2) (c_mfeedO (zf s) s.tx s.t a1 _ hI) (by omega) (by omega) rfl rfl [0, 20, 21] [500, 501] rfl rfl (by decide +kernel) (by decide +kernel) (by decide +kernel) rfl rfl (fun r u h => ⟨_, h.1⟩) (fun v u1 r2 u2 hu1 hu2 hp1 hp2 => ?_)
      obtain ⟨hv, rfl⟩ := hp1
      obtain ⟨rfl, rfl⟩ := hp2
      obtain rfl := Value.int.inj (Option.some.inj hv)
      exact ⟨rfl, fin8 K (by decide +kernel) (by decide +kernel) rfl I1⟩
  · rcases in_18 hI with rfl | rfl | rfl | rfl | rfl | rfl | rfl | rfl
    · by_cases ht : s.t + 1 ≤ 400
      · skip
        obtain ⟨q1, q2, q3⟩ := tyR_ap vv 1 s.t s.tx s.ty (by decide) ht i2 i1 i4
        refine lw_0 F hJ hS had hj hL ha1 hvv (c_feed1 (kpI s.k0 s.k1) s.ty i1 s.t s.ra s.fp s.fd s.lt s.ct _ ht) (c_mfeed1 (zf s) s.tx s.t i2 _ ht) (by omega) (by omega) rfl rfl [0, 20, 21] [500, 501] rfl rfl (by decide +kernel) (by decide +kernel) (by decide +kernel) rfl rfl (fun r u h => ⟨_, h.1⟩) (fun v u1 r2 u2 hu1 hu2 hp1 hp2 => ?_)
        obtain ⟨hv, rfl⟩ := hp1
        obtain ⟨rfl, rfl⟩ := hp2
        obtain rfl := Value.int.inj (Option.some.inj hv)
        exact ⟨rfl, fin9 K s.h s.dh s.b s.tb s.p s.q s.pm s.qm s.nb s.w32 s.v32 s.y28 s.ot s.dl s.rb s.rs (apT vv 1 s.t s.ty) (mpT vv 1 s.t s.tx) s.ps s.gs s.ls s.st9 s.mt9 s.sd s.ts s.s0 s.s1 s.fp s.fd s.lt s.ct s.g2 s.g3 s.g4 s.g5 s.a2 s.a3 s.a4 s.e0 s.e1 s.e2 s.m18 s.m21 s.m22 s.m23 s.m26 s.ab (s.t + 1) s.ra s.n s.c s.m17 s.m19 s.m20 s.k0 s.k1 (by decide +kernel) (by decide +kernel) s.b (Eq25.rf _) rfl rfl ⟨⟨q3, q2, ht, q1⟩, I1.2.1, I1.2.2.1, I1.2.2.2.1, I1.2.2.2.2.1, I1.2.2.2.2.2.1, I1.2.2.2.2.2.2.1, I1.2.2.2.2.2.2.2⟩⟩
      · skip
        refine lw_0 F hJ hS had hj hL ha1 hvv (c_feedF1 (kpI s.k0 s.k1) s.ty i1 s.t s.ra s.fp s.fd s.lt s.ct _ i3 ht) (c_mfeedF1 (zf s) s.tx s.t _ i3 ht) (by omega) (by omega) rfl rfl [0, 20, 21] [500, 501] rfl rfl (by decide +kernel) (by decide +kernel) (by decide +kernel) rfl rfl (fun r u h => ⟨_, h.1⟩) (fun v u1 r2 u2 hu1 hu2 hp1 hp2 => ?_)
        obtain ⟨hv, rfl⟩ := hp1
        obtain ⟨rfl, rfl⟩ := hp2
        obtain rfl := Value.int.inj (Option.some.inj hv)
        exact ⟨rfl, fin8 K (by decide +kernel) (by decide +kernel) rfl I1⟩
    · by_cases ht : s.t + 2 ≤ 400
      · skip
        obtain ⟨q1, q2, q3⟩ := tyR_ap vv 2 s.t s.tx s.ty (by decide) ht i2 i1 i4
        refine lw_0 F hJ hS had hj hL ha1 hvv (c_feed2 (kpI s.k0 s.k1) s.ty i1 s.t s.ra s.fp s.fd s.lt s.ct _ ht) (c_mfeed2 (zf s) s.tx s.t i2 _ ht) (by omega) (by omega) rfl rfl [0, 20, 21] [500, 501] rfl rfl (by decide +kernel) (by decide +kernel) (by decide +kernel) rfl rfl (fun r u h => ⟨_, h.1⟩) (fun v u1 r2 u2 hu1 hu2 hp1 hp2 => ?_)
        obtain ⟨hv, rfl⟩ := hp1
        obtain ⟨rfl, rfl⟩ := hp2
        obtain rfl := Value.int.inj (Option.some.inj hv)
        exact ⟨rfl, fin9 K s.h s.dh s.b s.tb s.p s.q s.pm s.qm s.nb s.w32 s.v32 s.y28 s.ot s.dl s.rb s.rs (apT vv 2 s.t s.ty) (mpT vv 2 s.t s.tx) s.ps s.gs s.ls s.st9 s.mt9 s.sd s.ts s.s0 s.s1 s.fp s.fd s.lt s.ct s.g2 s.g3 s.g4 s.g5 s.a2 s.a3 s.a4 s.e0 s.e1 s.e2 s.m18 s.m21 s.m22 s.m23 s.m26 s.ab (s.t + 2) s.ra s.n s.c s.m17 s.m19 s.m20 s.k0 s.k1 (by decide +kernel) (by decide +kernel) s.b (Eq25.rf _) rfl rfl ⟨⟨q3, q2, ht, q1⟩, I1.2.1, I1.2.2.1, I1.2.2.2.1, I1.2.2.2.2.1, I1.2.2.2.2.2.1, I1.2.2.2.2.2.2.1, I1.2.2.2.2.2.2.2⟩⟩
      · skip
        refine lw_0 F hJ hS had hj hL ha1 hvv (c_feedF2 (kpI s.k0 s.k1) s.ty i1 s.t s.ra s.fp s.fd s.lt s.ct _ i3 ht) (c_mfeedF2 (zf s) s.tx s.t _ i3 ht) (by omega) (by omega) rfl rfl [0, 20, 21] [500, 501] rfl rfl (by decide +kernel) (by decide +kernel) (by decide +kernel) rfl rfl (fun r u h => ⟨_, h.1⟩) (fun v u1 r2 u2 hu1 hu2 hp1 hp2 => ?_)
        obtain ⟨hv, rfl⟩ := hp1
        obtain ⟨rfl, rfl⟩ := hp2
        obtain rfl := Value.int.inj (Option.some.inj hv)
        exact ⟨rfl, fin8 K (by decide +kernel) (by decide +kernel) rfl I1⟩
    · by_cases ht : s.t + 3 ≤ 400
      · skip
        obtain ⟨q1, q2, q3⟩ := tyR_ap vv 3 s.t s.tx s.ty (by decide) ht i2 i1 i4
        refine lw_0 F hJ hS had hj hL ha1 hvv (c_feed3 (kpI s.k0 s.k1) s.ty i1 s.t s.ra s.fp s.fd s.lt s.ct _ ht) (c_mfeed3 (zf s) s.tx s.t i2 _ ht) (by omega) (by omega) rfl rfl [0, 20, 21] [500, 501] rfl rfl (by decide +kernel) (by decide +kernel) (by decide +kernel) rfl rfl (fun r u h => ⟨_, h.1⟩) (fun v u1 r2 u2 hu1 hu2 hp1 hp2 => ?_)
        obtain ⟨hv, rfl⟩ := hp1
        obtain ⟨rfl, rfl⟩ := hp2
        obtain rfl := Value.int.inj (Option.some.inj hv)
        exact ⟨rfl, fin9 K s.h s.dh s.b s.tb s.p s.q s.pm s.qm s.nb s.w32 s.v32 s.y28 s.ot s.dl s.rb s.rs (apT vv 3 s.t s.ty) (mpT vv 3 s.t s.tx) s.ps s.gs s.ls s.st9 s.mt9 s.sd s.ts s.s0 s.s1 s.fp s.fd s.lt s.ct s.g2 s.g3 s.g4 s.g5 s.a2 s.a3 s.a4 s.e0 s.e1 s.e2 s.m18 s.m21 s.m22 s.m23 s.m26 s.ab (s.t + 3) s.ra s.n s.c s.m17 s.m19 s.m20 s.k0 s.k1 (by decide +kernel) (by decide +kernel) s.b (Eq25.rf _) rfl rfl ⟨⟨q3, q2, ht, q1⟩, I1.2.1, I1.2.2.1, I1.2.2.2.1, I1.2.2.2.2.1, I1.2.2.2.2.2.1, I1.2.2.2.2.2.2.1, I1.2.2.2.2.2.2.2⟩⟩
      · skip
        refine lw_0 F hJ hS had hj hL ha1 hvv (c_feedF3 (kpI s.k0 s.k1) s.ty i1 s.t s.ra s.fp s.fd s.lt s.ct _ i3 ht) (c_mfeedF3 (zf s) s.tx s.t _ i3 ht) (by omega) (by omega) rfl rfl [0, 20, 21] [500, 501] rfl rfl (by decide +kernel) (by decide +kernel) (by decide +kernel) rfl rfl (fun r u h => ⟨_, h.1⟩) (fun v u1 r2 u2 hu1 hu2 hp1 hp2 => ?_)
        obtain ⟨hv, rfl⟩ := hp1
        obtain ⟨rfl, rfl⟩ := hp2
        obtain rfl := Value.int.inj (Option.some.inj hv)
        exact ⟨rfl, fin8 K (by decide +kernel) (by decide +kernel) rfl I1⟩
    · by_cases ht : s.t + 4 ≤ 400
      · skip
        obtain ⟨q1, q2, q3⟩ := tyR_ap vv 4 s.t s.tx s.ty (by decide) ht i2 i1 i4
        refine lw_0 F hJ hS had hj hL ha1 hvv (c_feed4 (kpI s.k0 s.k1) s.ty i1 s.t s.ra s.fp s.fd s.lt s.ct _ ht) (c_mfeed4 (zf s) s.tx s.t i2 _ ht) (by omega) (by omega) rfl rfl [0, 20, 21] [500, 501] rfl rfl (by decide +kernel) (by decide +kernel) (by decide +kernel) rfl rfl (fun r u h => ⟨_, h.1⟩) (fun v u1 r2 u2 hu1 hu2 hp1 hp2 => ?_)
        obtain ⟨hv, rfl⟩ := hp1
        obtain ⟨rfl, rfl⟩ := hp2
        obtain rfl := Value.int.inj (Option.some.inj hv)
        exact ⟨rfl, fin9 K s.h s.dh s.b s.tb s.p s.q s.pm s.qm s.nb s.w32 s.v32 s.y28 s.ot s.dl s.rb s.rs (apT vv 4 s.t s.ty) (mpT vv 4 s.t s.tx) s.ps s.gs s.ls s.st9 s.mt9 s.sd s.ts s.s0 s.s1 s.fp s.fd s.lt s.ct s.g2 s.g3 s.g4 s.g5 s.a2 s.a3 s.a4 s.e0 s.e1 s.e2 s.m18 s.m21 s.m22 s.m23 s.m26 s.ab (s.t + 4) s.ra s.n s.c s.m17 s.m19 s.m20 s.k0 s.k1 (by decide +kernel) (by decide +kernel) s.b (Eq25.rf _) rfl rfl ⟨⟨q3, q2, ht, q1⟩, I1.2.1, I1.2.2.1, I1.2.2.2.1, I1.2.2.2.2.1, I1.2.2.2.2.2.1, I1.2.2.2.2.2.2.1, I1.2.2.2.2.2.2.2⟩⟩
      · skip
        refine lw_0 F hJ hS had hj hL ha1 hvv (c_feedF4 (kpI s.k0 s.k1) s.ty i1 s.t s.ra s.fp s.fd s.lt s.ct _ i3 ht) (c_mfeedF4 (zf s) s.tx s.t _ i3 ht) (by omega) (by omega) rfl rfl [0, 20, 21] [500, 501] rfl rfl (by decide +kernel) (by decide +kernel) (by decide +kernel) rfl rfl (fun r u h => ⟨_, h.1⟩) (fun v u1 r2 u2 hu1 hu2 hp1 hp2 => ?_)
        obtain ⟨hv, rfl⟩ := hp1
        obtain ⟨rfl, rfl⟩ := hp2
        obtain rfl := Value.int.inj (Option.some.inj hv)
        exact ⟨rfl, fin8 K (by decide +kernel) (by decide +kernel) rfl I1⟩
    · by_cases ht : s.t + 5 ≤ 400
      · skip
        obtain ⟨q1, q2, q3⟩ := tyR_ap vv 5 s.t s.tx s.ty (by decide) ht i2 i1 i4
        refine lw_0 F hJ hS had hj hL ha1 hvv (c_feed5 (kpI s.k0 s.k1) s.ty i1 s.t s.ra s.fp s.fd s.lt s.ct _ ht) (c_mfeed5 (zf s) s.tx s.t i2 _ ht) (by omega) (by omega) rfl rfl [0, 20, 21] [500, 501] rfl rfl (by decide +kernel) (by decide +kernel) (by decide +kernel) rfl rfl (fun r u h => ⟨_, h.1⟩) (fun v u1 r2 u2 hu1 hu2 hp1 hp2 => ?_)
        obtain ⟨hv, rfl⟩ := hp1
        obtain ⟨rfl, rfl⟩ := hp2
        obtain rfl := Value.int.inj (Option.some.inj hv)
        exact ⟨rfl, fin9 K s.h s.dh s.b s.tb s.p s.q s.pm s.qm s.nb s.w32 s.v32 s.y28 s.ot s.dl s.rb s.rs (apT vv 5 s.t s.ty) (mpT vv 5 s.t s.tx) s.ps s.gs s.ls s.st9 s.mt9 s.sd s.ts s.s0 s.s1 s.fp s.fd s.lt s.ct s.g2 s.g3 s.g4 s.g5 s.a2 s.a3 s.a4 s.e0 s.e1 s.e2 s.m18 s.m21 s.m22 s.m23 s.m26 s.ab (s.t + 5) s.ra s.n s.c s.m17 s.m19 s.m20 s.k0 s.k1 (by decide +kernel) (by decide +kernel) s.b (Eq25.rf _) rfl rfl ⟨⟨q3, q2, ht, q1⟩, I1.2.1, I1.2.2.1, I1.2.2.2.1, I1.2.2.2.2.1, I1.2.2.2.2.2.1, I1.2.2.2.2.2.2.1, I1.2.2.2.2.2.2.2⟩⟩
      · skip
        refine lw_0 F hJ hS had hj hL ha1 hvv (c_feedF5 (kpI s.k0 s.k1) s.ty i1 s.t s.ra s.fp s.fd s.lt s.ct _ i3 ht) (c_mfeedF5 (zf s) s.tx s.t _ i3 ht) (by omega) (by omega) rfl rfl [0, 20, 21] [500, 501] rfl rfl (by decide +kernel) (by decide +kernel) (by decide +kernel) rfl rfl (fun r u h => ⟨_, h.1⟩) (fun v u1 r2 u2 hu1 hu2 hp1 hp2 => ?_)
        obtain ⟨hv, rfl⟩ := hp1
        obtain ⟨rfl, rfl⟩ := hp2
        obtain rfl := Value.int.inj (Option.some.inj hv)
        exact ⟨rfl, fin8 K (by decide +kernel) (by decide +kernel) rfl I1⟩
    · by_cases ht : s.t + 6 ≤ 400
      · skip
        obtain ⟨q1, q2, q3⟩ := tyR_ap vv 6 s.t s.tx s.ty (by decide) ht i2 i1 i4
        refine lw_0 F hJ hS had hj hL ha1 hvv (c_feed6 (kpI s.k0 s.k1) s.ty i1 s.t s.ra s.fp s.fd s.lt s.ct _ ht) (c_mfeed6 (zf s) s.tx s.t i2 _ ht) (by omega) (by omega) rfl rfl [0, 20, 21] [500, 501] rfl rfl (by decide +kernel) (by decide +kernel) (by decide +kernel) rfl rfl (fun r u h => ⟨_, h.1⟩) (fun v u1 r2 u2 hu1 hu2 hp1 hp2 => ?_)
        obtain ⟨hv, rfl⟩ := hp1
        obtain ⟨rfl, rfl⟩ := hp2
        obtain rfl := Value.int.inj (Option.some.inj hv)
        exact ⟨rfl, fin9 K s.h s.dh s.b s.tb s.p s.q s.pm s.qm s.nb s.w32 s.v32 s.y28 s.ot s.dl s.rb s.rs (apT vv 6 s.t s.ty) (mpT vv 6 s.t s.tx) s.ps s.gs s.ls s.st9 s.mt9 s.sd s.ts s.s0 s.s1 s.fp s.fd s.lt s.ct s.g2 s.g3 s.g4 s.g5 s.a2 s.a3 s.a4 s.e0 s.e1 s.e2 s.m18 s.m21 s.m22 s.m23 s.m26 s.ab (s.t + 6) s.ra s.n s.c s.m17 s.m19 s.m20 s.k0 s.k1 (by decide +kernel) (by decide +kernel) s.b (Eq25.rf _) rfl rfl ⟨⟨q3, q2, ht, q1⟩, I1.2.1, I1.2.2.1, I1.2.2.2.1, I1.2.2.2.2.1, I1.2.2.2.2.2.1, I1.2.2.2.2.2.2.1, I1.2.2.2.2.2.2.2⟩⟩
      · skip
        refine lw_0 F hJ hS had hj hL ha1 hvv (c_feedF6 (kpI s.k0 s.k1) s.ty i1 s.t s.ra s.fp s.fd s.lt s.ct _ i3 ht) (c_mfeedF6 (zf s) s.tx s.t _ i3 ht) (by omega) (by omega) rfl rfl [0, 20, 21] [500, 501] rfl rfl (by decide +kernel) (by decide +kernel) (by decide +kernel) rfl rfl (fun r u h => ⟨_, h.1⟩) (fun v u1 r2 u2 hu1 hu2 hp1 hp2 => ?_)
        obtain ⟨hv, rfl⟩ := hp1
        obtain ⟨rfl, rfl⟩ := hp2
        obtain rfl := Value.int.inj (Option.some.inj hv)
        exact ⟨rfl, fin8 K (by decide +kernel) (by decide +kernel) rfl I1⟩
    · by_cases ht : s.t + 7 ≤ 400
      · skip
        obtain ⟨q1, q2, q3⟩ := tyR_ap vv 7 s.t s.tx s.ty (by decide) ht i2 i1 i4
        refine lw_0 F hJ hS had hj hL ha1 hvv (c_feed7 (kpI s.k0 s.k1) s.ty i1 s.t s.ra s.fp s.fd s.lt s.ct _ ht) (c_mfeed7 (zf s) s.tx s.t i2 _ ht) (by omega) (by omega) rfl rfl [0, 20, 21] [500, 501] rfl rfl (by decide +kernel) (by decide +kernel) (by decide +kernel) rfl rfl (fun r u h => ⟨_, h.1⟩) (fun v u1 r2 u2 hu1 hu2 hp1 hp2 => ?_)
        obtain ⟨hv, rfl⟩ := hp1
        obtain ⟨rfl, rfl⟩ := hp2
        obtain rfl := Value.int.inj (Option.some.inj hv)
        exact ⟨rfl, fin9 K s.h s.dh s.b s.tb s.p s.q s.pm s.qm s.nb s.w32 s.v32 s.y28 s.ot s.dl s.rb s.rs (apT vv 7 s.t s.ty) (mpT vv 7 s.t s.tx) s.ps s.gs s.ls s.st9 s.mt9 s.sd s.ts s.s0 s.s1 s.fp s.fd s.lt s.ct s.g2 s.g3 s.g4 s.g5 s.a2 s.a3 s.a4 s.e0 s.e1 s.e2 s.m18 s.m21 s.m22 s.m23 s.m26 s.ab (s.t + 7) s.ra s.n s.c s.m17 s.m19 s.m20 s.k0 s.k1 (by decide +kernel) (by decide +kernel) s.b (Eq25.rf _) rfl rfl ⟨⟨q3, q2, ht, q1⟩, I1.2.1, I1.2.2.1, I1.2.2.2.1, I1.2.2.2.2.1, I1.2.2.2.2.2.1, I1.2.2.2.2.2.2.1, I1.2.2.2.2.2.2.2⟩⟩
      · skip
        refine lw_0 F hJ hS had hj hL ha1 hvv (c_feedF7 (kpI s.k0 s.k1) s.ty i1 s.t s.ra s.fp s.fd s.lt s.ct _ i3 ht) (c_mfeedF7 (zf s) s.tx s.t _ i3 ht) (by omega) (by omega) rfl rfl [0, 20, 21] [500, 501] rfl rfl (by decide +kernel) (by decide +kernel) (by decide +kernel) rfl rfl (fun r u h => ⟨_, h.1⟩) (fun v u1 r2 u2 hu1 hu2 hp1 hp2 => ?_)
        obtain ⟨hv, rfl⟩ := hp1
        obtain ⟨rfl, rfl⟩ := hp2
        obtain rfl := Value.int.inj (Option.some.inj hv)
        exact ⟨rfl, fin8 K (by decide +kernel) (by decide +kernel) rfl I1⟩
    · by_cases ht : s.t + 8 ≤ 400
      · skip
        obtain ⟨q1, q2, q3⟩ := tyR_ap vv 8 s.t s.tx s.ty (by decide) ht i2 i1 i4
        refine lw_0 F hJ hS had hj hL ha1 hvv (c_feed8 (kpI s.k0 s.k1) s.ty i1 s.t s.ra s.fp s.fd s.lt s.ct _ ht) (c_mfeed8 (zf s) s.tx s.t i2 _ ht) (by omega) (by omega) rfl rfl [0, 20, 21] [500, 501] rfl rfl (by decide +kernel) (by decide +kernel) (by decide +kernel) rfl rfl (fun r u h => ⟨_, h.1⟩) (fun v u1 r2 u2 hu1 hu2 hp1 hp2 => ?_)
        obtain ⟨hv, rfl⟩ := hp1
        obtain ⟨rfl, rfl⟩ := hp2
        obtain rfl := Value.int.inj (Option.some.inj hv)
        exact ⟨rfl, fin9 K s.h s.dh s.b s.tb s.p s.q s.pm s.qm s.nb s.w32 s.v32 s.y28 s.ot s.dl s.rb s.rs (apT vv 8 s.t s.ty) (mpT vv 8 s.t s.tx) s.ps s.gs s.ls s.st9 s.mt9 s.sd s.ts s.s0 s.s1 s.fp s.fd s.lt s.ct s.g2 s.g3 s.g4 s.g5 s.a2 s.a3 s.a4 s.e0 s.e1 s.e2 s.m18 s.m21 s.m22 s.m23 s.m26 s.ab (s.t + 8) s.ra s.n s.c s.m17 s.m19 s.m20 s.k0 s.k1 (by decide +kernel) (by decide +kernel) s.b (Eq25.rf _) rfl rfl ⟨⟨q3, q2, ht, q1⟩, I1.2.1, I1.2.2.1, I1.2.2.2.1, I1.2.2.2.2.1, I1.2.2.2.2.2.1, I1.2.2.2.2.2.2.1, I1.2.2.2.2.2.2.2⟩⟩
      · skip
        refine lw_0 F hJ hS had hj hL ha1 hvv (c_feedF8 (kpI s.k0 s.k1) s.ty i1 s.t s.ra s.fp s.fd s.lt s.ct _ i3 ht) (c_mfeedF8 (zf s) s.tx s.t _ i3 ht) (by omega) (by omega) rfl rfl [0, 20, 21] [500, 501] rfl rfl (by decide +kernel) (by decide +kernel) (by decide +kernel) rfl rfl (fun r u h => ⟨_, h.1⟩) (fun v u1 r2 u2 hu1 hu2 hp1 hp2 => ?_)
        obtain ⟨hv, rfl⟩ := hp1
        obtain ⟨rfl, rfl⟩ := hp2
        obtain rfl := Value.int.inj (Option.some.inj hv)
        exact ⟨rfl, fin8 K (by decide +kernel) (by decide +kernel) rfl I1⟩
