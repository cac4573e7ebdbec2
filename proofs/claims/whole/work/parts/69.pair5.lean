set_option maxRecDepth 100000 in
set_option maxHeartbeats 8000000 in
theorem ca_13 {x : Cx} {nm : String} {d : Nat} (F : Fx x cL_law 4 RL nm (some .boolean) d) (hd : 60 ≤ d) {ad : Nat → Nat} {cells slots : Nat} (hJ : jSx x ad) {b L : Nat} {xs : Nat → Int32} (hS : Sc x b L xs) (had : ad 900 = b) {j m : Nat} (hj : 4 * j + 4 ≤ L) (hL : L ≤ 2048) (K : Nxt x (ad, cells, slots) j m) {s : S9} (I : Iv m s) : J x 4 (ad, cells, slots) (497, [(0, .ref 900), (1, .ref 0), (2, .ref 500), (3, .int (nI (4 * j)))], [], WD9 s) := by
  have I1 := I.up
  obtain ⟨⟨i1, i2, i3, i4⟩, ⟨i5, i6⟩, ⟨i7, i8, i9, i10⟩, ⟨i11, i12⟩, iH, iG, iP, iQ⟩ := I
  obtain ⟨n0, B0, R0, hg⟩ := Hx_Hg iH
  have hn0 := hg.1
  have h0 := hg.2.1
  have hR := Hg_Rok hg
  have hn4 : s.h 0 ≤ 4 := i_le4 h0 hn0
  have hst := iG.2.2.1
  generalize ha1 : xs (4 * j + 1) = a1
  cases hA : amB a1 (s.h 0)
  · skip
    refine lw_13 F hJ hS had hj hL ha1 (c_everU (kpI s.k0 s.k1) s.h a1 hA) (c_meverU (zf s) s.h n0 B0 R0 hg s.m26 s.st9 s.mt9 i11 i12 a1 ((am_in hn0 h0 a1).symm.trans hA)) (by omega) (by omega) rfl rfl [0, 10, 12] [500, 502, 513, 514] rfl rfl (by decide +kernel) (by decide +kernel) (by decide +kernel) rfl rfl (fun r u h => ⟨_, h.1⟩) (fun v u1 r2 u2 hu1 hu2 hp1 hp2 => ?_)
    obtain ⟨hv, rfl⟩ := hp1
    obtain ⟨rfl, rfl⟩ := hp2
    obtain rfl := Value.int.inj (Option.some.inj hv)
    exact ⟨rfl, fin8 K (by decide +kernel) (by decide +kernel) rfl I1⟩
  · skip
    refine lw_13 F hJ hS had hj hL ha1 (c_everT (kpI s.k0 s.k1) s.h a1 hA) (c_meverT (zf s) s.h n0 B0 R0 hg s.m26 s.st9 s.mt9 i11 i12 a1 ((am_in hn0 h0 a1).symm.trans hA)) (by omega) (by omega) rfl rfl [0, 10, 12] [500, 502, 513, 514] rfl rfl (by decide +kernel) (by decide +kernel) (by decide +kernel) rfl rfl (fun r u h => ⟨_, h.1⟩) (fun v u1 r2 u2 hu1 hu2 hp1 hp2 => ?_)
    obtain ⟨hv, rfl⟩ := hp1
    obtain ⟨K', ss', mt', g1, g2, rfl, rfl⟩ := hp2
    obtain rfl := Value.int.inj (Option.some.inj hv)
    exact ⟨rfl, fin9 K s.h s.dh s.b s.tb s.p s.q s.pm s.qm s.nb s.w32 s.v32 s.y28 s.ot s.dl s.rb s.rs s.ty s.tx s.ps s.gs s.ls ss' mt' s.sd s.ts s.s0 s.s1 s.fp s.fd s.lt s.ct s.g2 s.g3 s.g4 s.g5 s.a2 s.a3 s.a4 s.e0 s.e1 s.e2 s.m18 s.m21 s.m22 s.m23 K' s.ab s.t s.ra s.n s.c s.m17 s.m19 s.m20 s.k0 s.k1 (by decide +kernel) (by decide +kernel) s.b (Eq25.rf _) rfl rfl ⟨I1.1, I1.2.1, I1.2.2.1, ⟨g1, g2⟩, I1.2.2.2.2.1, I1.2.2.2.2.2.1, I1.2.2.2.2.2.2.1, I1.2.2.2.2.2.2.2⟩⟩
set_option maxRecDepth 100000 in
set_option maxHeartbeats 8000000 in
theorem ca_14 {x : Cx} {nm : String} {d : Nat} (F : Fx x cL_law 4 RL nm (some .boolean) d) (hd : 60 ≤ d) {ad : Nat → Nat} {cells slots : Nat} (hJ : jSx x ad) {b L : Nat} {xs : Nat → Int32} (hS : Sc x b L xs) (had : ad 900 = b) {j m : Nat} (hj : 4 * j + 4 ≤ L) (hL : L ≤ 2048) (K : Nxt x (ad, cells, slots) j m) {s : S9} (I : Iv m s) : J x 4 (ad, cells, slots) (520, [(0, .ref 900), (1, .ref 0), (2, .ref 500), (3, .int (nI (4 * j)))], [], WD9 s) := by
  have I1 := I.up
  obtain ⟨⟨i1, i2, i3, i4⟩, ⟨i5, i6⟩, ⟨i7, i8, i9, i10⟩, ⟨i11, i12⟩, iH, iG, iP, iQ⟩ := I
  obtain ⟨n0, B0, R0, hg⟩ := Hx_Hg iH
  have hn0 := hg.1
  have h0 := hg.2.1
  have hR := Hg_Rok hg
  have hn4 : s.h 0 ≤ 4 := i_le4 h0 hn0
  have hst := iG.2.2.1
  refine lw_14 F hJ hS had hj hL (c_voices (kpI s.k0 s.k1) s.h) (c_mvoices (zf s) s.h n0 B0 R0 hg s.m26 s.st9 s.mt9 i11 i12) (by omega) (by omega) rfl rfl [0, 10, 12] [500, 502, 513, 514] rfl rfl (by decide +kernel) (by decide +kernel) (by decide +kernel) rfl rfl (fun r u h => ⟨_, h.1⟩) (fun v u1 r2 u2 hu1 hu2 hp1 hp2 => ?_)
  obtain ⟨hv, rfl⟩ := hp1
  obtain ⟨K', ss', mt', g1, g2, rfl, rfl⟩ := hp2
  obtain rfl := Value.int.inj (Option.some.inj hv)
  exact ⟨(sI (voices_eq hn0 h0).symm), fin9 K s.h s.dh s.b s.tb s.p s.q s.pm s.qm s.nb s.w32 s.v32 s.y28 s.ot s.dl s.rb s.rs s.ty s.tx s.ps s.gs s.ls ss' mt' s.sd s.ts s.s0 s.s1 s.fp s.fd s.lt s.ct s.g2 s.g3 s.g4 s.g5 s.a2 s.a3 s.a4 s.e0 s.e1 s.e2 s.m18 s.m21 s.m22 s.m23 K' s.ab s.t s.ra s.n s.c s.m17 s.m19 s.m20 s.k0 s.k1 (by decide +kernel) (by decide +kernel) s.b (Eq25.rf _) rfl rfl ⟨I1.1, I1.2.1, I1.2.2.1, ⟨g1, g2⟩, I1.2.2.2.2.1, I1.2.2.2.2.2.1, I1.2.2.2.2.2.2.1, I1.2.2.2.2.2.2.2⟩⟩
set_option maxRecDepth 100000 in
set_option maxHeartbeats 8000000 in
theorem ca_16 {x : Cx} {nm : String} {d : Nat} (F : Fx x cL_law 4 RL nm (some .boolean) d) (hd : 60 ≤ d) {ad : Nat → Nat} {cells slots : Nat} (hJ : jSx x ad) {b L : Nat} {xs : Nat → Int32} (hS : Sc x b L xs) (had : ad 900 = b) {j m : Nat} (hj : 4 * j + 4 ≤ L) (hL : L ≤ 2048) (K : Nxt x (ad, cells, slots) j m) {s : S9} (I : Iv m s) : J x 4 (ad, cells, slots) (566, [(0, .ref 900), (1, .ref 0), (2, .ref 500), (3, .int (nI (4 * j)))], [], WD9 s) := by
  have I1 := I.up
  obtain ⟨⟨i1, i2, i3, i4⟩, ⟨i5, i6⟩, ⟨i7, i8, i9, i10⟩, ⟨i11, i12⟩, iH, iG, iP, iQ⟩ := I
  obtain ⟨n0, B0, R0, hg⟩ := Hx_Hg iH
  have hn0 := hg.1
  have h0 := hg.2.1
  have hR := Hg_Rok hg
  have hn4 : s.h 0 ≤ 4 := i_le4 h0 hn0
  have hst := iG.2.2.1
  generalize ha1 : xs (4 * j + 1) = a1
  cases hK : inB a1 0 2
  · skip
    refine lw_16 F hJ hS had hj hL ha1 (c_lawsO (kpI s.k0 s.k1) (gi [s.g2, s.g3, s.g4, s.g5]) s.h s.b s.tb s.sd s.ts s.ps i5 s.n i6 a1 hK) (c_mlawsO (zf s) s.h s.b s.nb s.ps i5 s.n i6 hn4 hst a1 hK) (by omega) (by omega) rfl rfl [0, 30, 31, 10, 11, 12, 100, 101, 102, 103, 104, 110, 111, 112, 113, 114] [500, 502, 505, 506, 510] rfl rfl (by decide +kernel) (by decide +kernel) (by decide +kernel) rfl rfl (fun r u h => ⟨_, h.1⟩) (fun v u1 r2 u2 hu1 hu2 hp1 hp2 => ?_)
    obtain ⟨hv, rfl⟩ := hp1
    obtain ⟨rfl, rfl⟩ := hp2
    obtain rfl := Value.int.inj (Option.some.inj hv)
    exact ⟨rfl, fin8 K (by decide +kernel) (by decide +kernel) rfl I1⟩
  · skip
    refine lw_16 F hJ hS had hj hL ha1 (c_laws (kpI s.k0 s.k1) (gi [s.g2, s.g3, s.g4, s.g5]) s.h s.b s.tb s.sd s.ts s.ps i5 s.n i6 a1 hK) (c_mlaws (zf s) s.h s.b s.nb s.ps i5 s.n i6 hn4 hst a1 hK) (by omega) (by omega) rfl rfl [0, 30, 31, 10, 11, 12, 100, 101, 102, 103, 104, 110, 111, 112, 113, 114] [500, 502, 505, 506, 510] rfl rfl (by decide +kernel) (by decide +kernel) (by decide +kernel) rfl rfl (fun r u h => ⟨_, h.1⟩) (fun v u1 r2 u2 hu1 hu2 hp1 hp2 => ?_)
    obtain ⟨hv, rfl⟩ := hp1
    obtain ⟨rfl, rfl⟩ := hp2
    obtain rfl := Value.int.inj (Option.some.inj hv)
    exact ⟨(sI (laws_eq hR iG.1 (Eq25.rf s.b) iG.2.1 hK s.n)), fin9 K s.h s.dh s.b (plB s.h s.ps (stc s.b a1) s.n) s.p s.q s.pm s.qm (mrB s.h s.ps (stk (mcp s.b) a1) s.n) s.w32 s.v32 s.y28 s.ot s.dl s.rb s.rs s.ty s.tx s.ps s.gs s.ls s.st9 s.mt9 s.sd s.sd s.s0 s.s1 s.fp s.fd s.lt s.ct (plS s.h s.ps (stc s.b a1) s.n) (plO s.h s.ps (stc s.b a1) s.n) (plD s.h s.ps (stc s.b a1) s.n) (plG s.h s.ps (stc s.b a1) s.n) s.a2 s.a3 s.a4 s.e0 s.e1 s.e2 s.m18 s.m21 s.m22 s.m23 s.m26 s.ab s.t s.ra s.n s.c s.m17 s.m19 s.m20 s.k0 s.k1 (by decide +kernel) (by decide +kernel) s.b (Eq25.rf _) rfl rfl I1⟩
set_option maxRecDepth 100000 in
set_option maxHeartbeats 8000000 in
theorem ca_17 {x : Cx} {nm : String} {d : Nat} (F : Fx x cL_law 4 RL nm (some .boolean) d) (hd : 60 ≤ d) {ad : Nat → Nat} {cells slots : Nat} (hJ : jSx x ad) {b L : Nat} {xs : Nat → Int32} (hS : Sc x b L xs) (had : ad 900 = b) {j m : Nat} (hj : 4 * j + 4 ≤ L) (hL : L ≤ 2048) (K : Nxt x (ad, cells, slots) j m) {s : S9} (I : Iv m s) : J x 4 (ad, cells, slots) (589, [(0, .ref 900), (1, .ref 0), (2, .ref 500), (3, .int (nI (4 * j)))], [], WD9 s) := by
  have I1 := I.up
  obtain ⟨⟨i1, i2, i3, i4⟩, ⟨i5, i6⟩, ⟨i7, i8, i9, i10⟩, ⟨i11, i12⟩, iH, iG, iP, iQ⟩ := I
  obtain ⟨n0, B0, R0, hg⟩ := Hx_Hg iH
  have hn0 := hg.1
  have h0 := hg.2.1
  have hR := Hg_Rok hg
  have hn4 : s.h 0 ≤ 4 := i_le4 h0 hn0
  have hst := iG.2.2.1
  generalize ha1 : xs (4 * j + 1) = a1
  generalize ha2 : xs (4 * j + 2) = a2
  by_cases h1 : a1 < 0
  · skip
    refine lw_17 F hJ hS had hj hL ha1 ha2 (c_premO1 (kpI s.k0 s.k1) s.h s.b s.sd a1 a2 h1) (c_mpremO1 (zf s) s.h s.b a1 a2 (inB_lo h1)) (by omega) (by omega) rfl rfl [0, 10, 100] [500, 502, 505] rfl rfl (by decide +kernel) (by decide +kernel) (by decide +kernel) rfl rfl (fun r u h => ⟨_, h.1⟩) (fun v u1 r2 u2 hu1 hu2 hp1 hp2 => ?_)
    obtain ⟨hv, rfl⟩ := hp1
    obtain ⟨rfl, rfl⟩ := hp2
    obtain rfl := Value.int.inj (Option.some.inj hv)
    exact ⟨rfl, fin8 K (by decide +kernel) (by decide +kernel) rfl I1⟩
  · by_cases h2 : 50 < a1
    · skip
      refine lw_17 F hJ hS had hj hL ha1 ha2 (c_premO2 (kpI s.k0 s.k1) s.h s.b s.sd a1 a2 h1 h2) (c_mpremO1 (zf s) s.h s.b a1 a2 (inB_hi h2)) (by omega) (by omega) rfl rfl [0, 10, 100] [500, 502, 505] rfl rfl (by decide +kernel) (by decide +kernel) (by decide +kernel) rfl rfl (fun r u h => ⟨_, h.1⟩) (fun v u1 r2 u2 hu1 hu2 hp1 hp2 => ?_)
      obtain ⟨hv, rfl⟩ := hp1
      obtain ⟨rfl, rfl⟩ := hp2
      obtain rfl := Value.int.inj (Option.some.inj hv)
      exact ⟨rfl, fin8 K (by decide +kernel) (by decide +kernel) rfl I1⟩
    · by_cases h3 : a2 < 0
      · skip
        refine lw_17 F hJ hS had hj hL ha1 ha2 (c_premO3 (kpI s.k0 s.k1) s.h s.b s.sd a1 a2 h1 h2 h3) (c_mpremO2 (zf s) s.h s.b a1 a2 (inB_ok h1 h2) (inB_lo h3)) (by omega) (by omega) rfl rfl [0, 10, 100] [500, 502, 505] rfl rfl (by decide +kernel) (by decide +kernel) (by decide +kernel) rfl rfl (fun r u h => ⟨_, h.1⟩) (fun v u1 r2 u2 hu1 hu2 hp1 hp2 => ?_)
        obtain ⟨hv, rfl⟩ := hp1
        obtain ⟨rfl, rfl⟩ := hp2
        obtain rfl := Value.int.inj (Option.some.inj hv)
        exact ⟨rfl, fin8 K (by decide +kernel) (by decide +kernel) rfl I1⟩
      · by_cases h4 : 1 < a2
        · skip
          refine lw_17 F hJ hS had hj hL ha1 ha2 (c_premO4 (kpI s.k0 s.k1) s.h s.b s.sd a1 a2 h1 h2 h3 h4) (c_mpremO2 (zf s) s.h s.b a1 a2 (inB_ok h1 h2) (inB_hi h4)) (by omega) (by omega) rfl rfl [0, 10, 100] [500, 502, 505] rfl rfl (by decide +kernel) (by decide +kernel) (by decide +kernel) rfl rfl (fun r u h => ⟨_, h.1⟩) (fun v u1 r2 u2 hu1 hu2 hp1 hp2 => ?_)
          obtain ⟨hv, rfl⟩ := hp1
          obtain ⟨rfl, rfl⟩ := hp2
          obtain rfl := Value.int.inj (Option.some.inj hv)
          exact ⟨rfl, fin8 K (by decide +kernel) (by decide +kernel) rfl I1⟩
        · obtain ⟨n, -, hn, rfl⟩ := inB_ex (l := 0) (u := 50) (by decide) (by decide) (inB_ok h1 h2)
          rcases in_2 (inB_ok h3 h4) with rfl | rfl
          · skip
            refine lw_17 F hJ hS had hj hL ha1 ha2 (c_prem0 (kpI s.k0 s.k1) s.h s.b s.sd n hn) (c_mprem0 (zf s) s.h s.b n hn (inB_ok h1 h2)) (by omega) (by omega) rfl rfl [0, 10, 100] [500, 502, 505] rfl rfl (by decide +kernel) (by decide +kernel) (by decide +kernel) rfl rfl (fun r u h => ⟨_, h.1⟩) (fun v u1 r2 u2 hu1 hu2 hp1 hp2 => ?_)
            obtain ⟨hv, rfl⟩ := hp1
            obtain ⟨rfl, rfl⟩ := hp2
            obtain rfl := Value.int.inj (Option.some.inj hv)
            exact ⟨rfl, fin8 K (by decide +kernel) (by decide +kernel) rfl I1⟩
          · skip
            refine lw_17 F hJ hS had hj hL ha1 ha2 (c_prem1 (kpI s.k0 s.k1) s.h s.b s.sd n hn) (c_mprem1 (zf s) s.h s.b n hn (inB_ok h1 h2)) (by omega) (by omega) rfl rfl [0, 10, 100] [500, 502, 505] rfl rfl (by decide +kernel) (by decide +kernel) (by decide +kernel) rfl rfl (fun r u h => ⟨_, h.1⟩) (fun v u1 r2 u2 hu1 hu2 hp1 hp2 => ?_)
            obtain ⟨hv, rfl⟩ := hp1
            obtain ⟨rfl, rfl⟩ := hp2
            obtain rfl := Value.int.inj (Option.some.inj hv)
            exact ⟨rfl, fin8 K (by decide +kernel) (by decide +kernel) rfl I1⟩
set_option maxRecDepth 100000 in
set_option maxHeartbeats 8000000 in
theorem ca_18 {x : Cx} {nm : String} {d : Nat} (F : Fx x cL_law 4 RL nm (some .boolean) d) (hd : 60 ≤ d) {ad : Nat → Nat} {cells slots : Nat} (hJ : jSx x ad) {b L : Nat} {xs : Nat → Int32} (hS : Sc x b L xs) (had : ad 900 = b) {j m : Nat} (hj : 4 * j + 4 ≤ L) (hL : L ≤ 2048) (K : Nxt x (ad, cells, slots) j m) {s : S9} (I : Iv m s) : J x 4 (ad, cells, slots) (622, [(0, .ref 900), (1, .ref 0), (2, .ref 500), (3, .int (nI (4 * j)))], [], WD9 s) := by
  have I1 := I.up
  obtain ⟨⟨i1, i2, i3, i4⟩, ⟨i5, i6⟩, ⟨i7, i8, i9, i10⟩, ⟨i11, i12⟩, iH, iG, iP, iQ⟩ := I
  obtain ⟨n0, B0, R0, hg⟩ := Hx_Hg iH
  have hn0 := hg.1
  have h0 := hg.2.1
  have hR := Hg_Rok hg
  have hn4 : s.h 0 ≤ 4 := i_le4 h0 hn0
  have hst := iG.2.2.1
  generalize ha1 : xs (4 * j + 1) = a1
  generalize ha2 : xs (4 * j + 2) = a2
  by_cases h1 : a1 < 0
  · skip
    refine lw_18 F hJ hS had hj hL ha1 ha2 (c_recO0 (kpI s.k0 s.k1) s.gs s.ls a1 a2 s.c h1) (c_mrecO1 (zf s) s.gs s.ls a1 a2 (inB_lo h1)) (by omega) (by omega) rfl rfl [0, 50, 51, 52] [500, 511, 512] rfl rfl (by decide +kernel) (by decide +kernel) (by decide +kernel) rfl rfl (fun r u h => ⟨_, h.1⟩) (fun v u1 r2 u2 hu1 hu2 hp1 hp2 => ?_)
    obtain ⟨hv, rfl⟩ := hp1
    obtain ⟨rfl, rfl⟩ := hp2
    obtain rfl := Value.int.inj (Option.some.inj hv)
    exact ⟨rfl, fin8 K (by decide +kernel) (by decide +kernel) rfl I1⟩
  · by_cases h2 : 9 < a1
    · skip
      refine lw_18 F hJ hS had hj hL ha1 ha2 (c_recO1 (kpI s.k0 s.k1) s.gs s.ls a1 a2 s.c h1 h2) (c_mrecO1 (zf s) s.gs s.ls a1 a2 (inB_hi h2)) (by omega) (by omega) rfl rfl [0, 50, 51, 52] [500, 511, 512] rfl rfl (by decide +kernel) (by decide +kernel) (by decide +kernel) rfl rfl (fun r u h => ⟨_, h.1⟩) (fun v u1 r2 u2 hu1 hu2 hp1 hp2 => ?_)
      obtain ⟨hv, rfl⟩ := hp1
      obtain ⟨rfl, rfl⟩ := hp2
      obtain rfl := Value.int.inj (Option.some.inj hv)
      exact ⟨rfl, fin8 K (by decide +kernel) (by decide +kernel) rfl I1⟩
    · by_cases h3 : a2 < 1
      · skip
        refine lw_18 F hJ hS had hj hL ha1 ha2 (c_recO2 (kpI s.k0 s.k1) s.gs s.ls a1 a2 s.c h1 h2 h3) (c_mrecO2 (zf s) s.gs s.ls a1 a2 (inB_ok h1 h2) (inB_lo h3)) (by omega) (by omega) rfl rfl [0, 50, 51, 52] [500, 511, 512] rfl rfl (by decide +kernel) (by decide +kernel) (by decide +kernel) rfl rfl (fun r u h => ⟨_, h.1⟩) (fun v u1 r2 u2 hu1 hu2 hp1 hp2 => ?_)
        obtain ⟨hv, rfl⟩ := hp1
        obtain ⟨rfl, rfl⟩ := hp2
        obtain rfl := Value.int.inj (Option.some.inj hv)
        exact ⟨rfl, fin8 K (by decide +kernel) (by decide +kernel) rfl I1⟩
      · by_cases h4 : 4 < a2
        · skip
          refine lw_18 F hJ hS had hj hL ha1 ha2 (c_recO3 (kpI s.k0 s.k1) s.gs s.ls a1 a2 s.c h1 h2 h3 h4) (c_mrecO2 (zf s) s.gs s.ls a1 a2 (inB_ok h1 h2) (inB_hi h4)) (by omega) (by omega) rfl rfl [0, 50, 51, 52] [500, 511, 512] rfl rfl (by decide +kernel) (by decide +kernel) (by decide +kernel) rfl rfl (fun r u h => ⟨_, h.1⟩) (fun v u1 r2 u2 hu1 hu2 hp1 hp2 => ?_)
          obtain ⟨hv, rfl⟩ := hp1
          obtain ⟨rfl, rfl⟩ := hp2
          obtain rfl := Value.int.inj (Option.some.inj hv)
          exact ⟨rfl, fin8 K (by decide +kernel) (by decide +kernel) rfl I1⟩
        · by_cases hc : s.c < 7
          · skip
            refine lw_18 F hJ hS had hj hL ha1 ha2 (c_rec (kpI s.k0 s.k1) s.gs s.ls a1 a2 i7 i8 s.c hc h1 h2 h3 h4) (c_mrec (zf s) s.gs s.ls i7 i8 s.c hc a1 a2 (inB_ok h1 h2) (inB_ok h3 h4)) (by omega) (by omega) rfl rfl [0, 50, 51, 52] [500, 511, 512] rfl rfl (by decide +kernel) (by decide +kernel) (by decide +kernel) rfl rfl (fun r u h => ⟨_, h.1⟩) (fun v u1 r2 u2 hu1 hu2 hp1 hp2 => ?_)
            obtain ⟨hv, rfl⟩ := hp1
            obtain ⟨rfl, rfl⟩ := hp2
            obtain rfl := Value.int.inj (Option.some.inj hv)
            exact ⟨rfl, fin9 K s.h s.dh s.b s.tb s.p s.q s.pm s.qm s.nb s.w32 s.v32 s.y28 s.ot s.dl s.rb s.rs s.ty s.tx s.ps (s.gs.set s.c a1) (s.ls.set s.c a2) s.st9 s.mt9 s.sd s.ts s.s0 s.s1 s.fp s.fd s.lt s.ct s.g2 s.g3 s.g4 s.g5 s.a2 s.a3 s.a4 s.e0 s.e1 s.e2 s.m18 s.m21 s.m22 s.m23 s.m26 s.ab s.t s.ra s.n (s.c + 1) s.m17 s.m19 s.m20 s.k0 s.k1 (by decide +kernel) (by decide +kernel) s.b (Eq25.rf _) rfl rfl ⟨I1.1, I1.2.1, ⟨(List.length_set).trans i7, (List.length_set).trans i8, hc, Rc_set i10 i7 i8 hc (inB_ok h1 h2) (inB_ok h3 h4)⟩, I1.2.2.2.1, I1.2.2.2.2.1, I1.2.2.2.2.2.1, I1.2.2.2.2.2.2.1, I1.2.2.2.2.2.2.2⟩⟩
          · have hc7 : s.c = 7 := by omega
            refine lw_18 F hJ hS had hj hL ha1 ha2 (c_recG (kpI s.k0 s.k1) s.gs s.ls a1 a2 s.c hc7 h1 h2 h3 h4) (c_mrecG (zf s) s.gs s.ls s.c hc7 a1 a2 (inB_ok h1 h2) (inB_ok h3 h4)) (by omega) (by omega) rfl rfl [0, 50, 51, 52] [500, 511, 512] rfl rfl (by decide +kernel) (by decide +kernel) (by decide +kernel) rfl rfl (fun r u h => ⟨_, h.1⟩) (fun v u1 r2 u2 hu1 hu2 hp1 hp2 => ?_)
            obtain ⟨hv, rfl⟩ := hp1
            obtain ⟨rfl, rfl⟩ := hp2
            obtain rfl := Value.int.inj (Option.some.inj hv)
            exact ⟨rfl, fin8 K (by decide +kernel) (by decide +kernel) rfl I1⟩
