set_option maxRecDepth 100000 in
set_option maxHeartbeats 8000000 in
theorem ca_2 {x : Cx} {nm : String} {d : Nat} (F : Fx x cL_law 4 RL nm (some .boolean) d) (hd : 60 ≤ d) {ad : Nat → Nat} {cells slots : Nat} (hJ : jSx x ad) {b L : Nat} {xs : Nat → Int32} (hS : Sc x b L xs) (had : ad 900 = b) {j m : Nat} (hj : 4 * j + 4 ≤ L) (hL : L ≤ 2048) (K : Nxt x (ad, cells, slots) j m) {s : S9} (I : Iv m s) : J x 4 (ad, cells, slots) (224, [(0, .ref 900), (1, .ref 0), (2, .ref 500), (3, .int (nI (4 * j)))], [], WD9 s) := by
  have I1 := I.up
  obtain ⟨⟨i1, i2, i3, i4⟩, ⟨i5, i6⟩, ⟨i7, i8, i9, i10⟩, ⟨i11, i12⟩, iH, iG, iP, iQ⟩ := I
  obtain ⟨n0, B0, R0, hg⟩ := Hx_Hg iH
  have hn0 := hg.1
  have h0 := hg.2.1
  have hR := Hg_Rok hg
  have hn4 : s.h 0 ≤ 4 := i_le4 h0 hn0
  have hst := iG.2.2.1
  refine lw_2 F hJ hS had hj hL (c_fault (kpI s.k0 s.k1) (gi [0, nI s.t, s.fp, 0, nI s.ra, s.fd, s.lt, s.ct])) (c_mfault (zf s)) (by omega) (by omega) rfl rfl [0, 20] [500] rfl rfl (by decide +kernel) (by decide +kernel) (by decide +kernel) rfl rfl (fun r u h => ⟨_, h.1⟩) (fun v u1 r2 u2 hu1 hu2 hp1 hp2 => ?_)
  obtain ⟨hv, rfl⟩ := hp1
  obtain ⟨rfl, rfl⟩ := hp2
  obtain rfl := Value.int.inj (Option.some.inj hv)
  exact ⟨rfl, fin8 K (by decide +kernel) (by decide +kernel) rfl I1⟩
set_option maxRecDepth 100000 in
set_option maxHeartbeats 8000000 in
theorem ca_3 {x : Cx} {nm : String} {d : Nat} (F : Fx x cL_law 4 RL nm (some .boolean) d) (hd : 60 ≤ d) {ad : Nat → Nat} {cells slots : Nat} (hJ : jSx x ad) {b L : Nat} {xs : Nat → Int32} (hS : Sc x b L xs) (had : ad 900 = b) {j m : Nat} (hj : 4 * j + 4 ≤ L) (hL : L ≤ 2048) (K : Nxt x (ad, cells, slots) j m) {s : S9} (I : Iv m s) : J x 4 (ad, cells, slots) (237, [(0, .ref 900), (1, .ref 0), (2, .ref 500), (3, .int (nI (4 * j)))], [], WD9 s) := by
  have I1 := I.up
  obtain ⟨⟨i1, i2, i3, i4⟩, ⟨i5, i6⟩, ⟨i7, i8, i9, i10⟩, ⟨i11, i12⟩, iH, iG, iP, iQ⟩ := I
  obtain ⟨n0, B0, R0, hg⟩ := Hx_Hg iH
  have hn0 := hg.1
  have h0 := hg.2.1
  have hR := Hg_Rok hg
  have hn4 : s.h 0 ≤ 4 := i_le4 h0 hn0
  have hst := iG.2.2.1
  generalize ha1 : xs (4 * j + 1) = a1
  cases hI : inB a1 0 11
  · skip
    refine lw_3 F hJ hS had hj hL ha1 (c_toldO (kpI s.k0 s.k1) s.h s.b (gi [0, nI s.t, s.fp, 0, nI s.ra, s.fd, s.lt, s.ct]) (gi [0, nI s.n, s.g2, s.g3, s.g4, s.g5]) s.sd (nI s.c) a1 (inB_toInt hI)) (c_mtoldO (zf s) s.h s.b a1 hI) (by omega) (by omega) rfl rfl [0, 10, 100, 20, 30, 50] [500, 502, 505] rfl rfl (by decide +kernel) (by decide +kernel) (by decide +kernel) rfl rfl (fun r u h => ⟨_, h.1⟩) (fun v u1 r2 u2 hu1 hu2 hp1 hp2 => ?_)
    obtain ⟨hv, rfl⟩ := hp1
    obtain ⟨rfl, rfl⟩ := hp2
    obtain rfl := Value.int.inj (Option.some.inj hv)
    exact ⟨rfl, fin8 K (by decide +kernel) (by decide +kernel) rfl I1⟩
  · rcases in_12 hI with rfl | rfl | rfl | rfl | rfl | rfl | rfl | rfl | rfl | rfl | rfl | rfl
    · skip
      refine lw_3 F hJ hS had hj hL ha1 (c_told0 (kpI s.k0 s.k1) s.h s.b (gi [0, nI s.t, s.fp, 0, nI s.ra, s.fd, s.lt, s.ct]) (gi [0, nI s.n, s.g2, s.g3, s.g4, s.g5]) s.sd (nI s.c)) (c_mtold0 (zf s) s.h s.b) (by omega) (by omega) rfl rfl [0, 10, 100, 20, 30, 50] [500, 502, 505] rfl rfl (by decide +kernel) (by decide +kernel) (by decide +kernel) rfl rfl (fun r u h => ⟨_, h.1⟩) (fun v u1 r2 u2 hu1 hu2 hp1 hp2 => ?_)
      obtain ⟨hv, rfl⟩ := hp1
      obtain ⟨rfl, rfl⟩ := hp2
      obtain rfl := Value.int.inj (Option.some.inj hv)
      exact ⟨rfl, fin8 K (by decide +kernel) (by decide +kernel) rfl I1⟩
    · skip
      refine lw_3 F hJ hS had hj hL ha1 (c_told1 (kpI s.k0 s.k1) s.h s.b (gi [0, nI s.t, s.fp, 0, nI s.ra, s.fd, s.lt, s.ct]) (gi [0, nI s.n, s.g2, s.g3, s.g4, s.g5]) s.sd (nI s.c)) (c_mtold1 (zf s) s.h s.b) (by omega) (by omega) rfl rfl [0, 10, 100, 20, 30, 50] [500, 502, 505] rfl rfl (by decide +kernel) (by decide +kernel) (by decide +kernel) rfl rfl (fun r u h => ⟨_, h.1⟩) (fun v u1 r2 u2 hu1 hu2 hp1 hp2 => ?_)
      obtain ⟨hv, rfl⟩ := hp1
      obtain ⟨rfl, rfl⟩ := hp2
      obtain rfl := Value.int.inj (Option.some.inj hv)
      exact ⟨rfl, fin8 K (by decide +kernel) (by decide +kernel) rfl I1⟩
    · skip
      refine lw_3 F hJ hS had hj hL ha1 (c_told2 (kpI s.k0 s.k1) s.h s.b (gi [0, nI s.t, s.fp, 0, nI s.ra, s.fd, s.lt, s.ct]) (gi [0, nI s.n, s.g2, s.g3, s.g4, s.g5]) s.sd (nI s.c)) (c_mtold2 (zf s) s.h s.b) (by omega) (by omega) rfl rfl [0, 10, 100, 20, 30, 50] [500, 502, 505] rfl rfl (by decide +kernel) (by decide +kernel) (by decide +kernel) rfl rfl (fun r u h => ⟨_, h.1⟩) (fun v u1 r2 u2 hu1 hu2 hp1 hp2 => ?_)
      obtain ⟨hv, rfl⟩ := hp1
      obtain ⟨rfl, rfl⟩ := hp2
      obtain rfl := Value.int.inj (Option.some.inj hv)
      exact ⟨rfl, fin8 K (by decide +kernel) (by decide +kernel) rfl I1⟩
    · skip
      refine lw_3 F hJ hS had hj hL ha1 (c_told3 (kpI s.k0 s.k1) s.h s.b (gi [0, nI s.t, s.fp, 0, nI s.ra, s.fd, s.lt, s.ct]) (gi [0, nI s.n, s.g2, s.g3, s.g4, s.g5]) s.sd (nI s.c)) (c_mtold3 (zf s) s.h s.b) (by omega) (by omega) rfl rfl [0, 10, 100, 20, 30, 50] [500, 502, 505] rfl rfl (by decide +kernel) (by decide +kernel) (by decide +kernel) rfl rfl (fun r u h => ⟨_, h.1⟩) (fun v u1 r2 u2 hu1 hu2 hp1 hp2 => ?_)
      obtain ⟨hv, rfl⟩ := hp1
      obtain ⟨rfl, rfl⟩ := hp2
      obtain rfl := Value.int.inj (Option.some.inj hv)
      exact ⟨rfl, fin8 K (by decide +kernel) (by decide +kernel) rfl I1⟩
    · skip
      refine lw_3 F hJ hS had hj hL ha1 (c_told4 (kpI s.k0 s.k1) s.h s.b (gi [0, nI s.t, s.fp, 0, nI s.ra, s.fd, s.lt, s.ct]) (gi [0, nI s.n, s.g2, s.g3, s.g4, s.g5]) s.sd (nI s.c)) (c_mtold4 (zf s) s.h s.b) (by omega) (by omega) rfl rfl [0, 10, 100, 20, 30, 50] [500, 502, 505] rfl rfl (by decide +kernel) (by decide +kernel) (by decide +kernel) rfl rfl (fun r u h => ⟨_, h.1⟩) (fun v u1 r2 u2 hu1 hu2 hp1 hp2 => ?_)
      obtain ⟨hv, rfl⟩ := hp1
      obtain ⟨rfl, rfl⟩ := hp2
      obtain rfl := Value.int.inj (Option.some.inj hv)
      exact ⟨rfl, fin8 K (by decide +kernel) (by decide +kernel) rfl I1⟩
    · skip
      refine lw_3 F hJ hS had hj hL ha1 (c_told5 (kpI s.k0 s.k1) s.h s.b (gi [0, nI s.t, s.fp, 0, nI s.ra, s.fd, s.lt, s.ct]) (gi [0, nI s.n, s.g2, s.g3, s.g4, s.g5]) s.sd (nI s.c)) (c_mtold5 (zf s) s.h s.b) (by omega) (by omega) rfl rfl [0, 10, 100, 20, 30, 50] [500, 502, 505] rfl rfl (by decide +kernel) (by decide +kernel) (by decide +kernel) rfl rfl (fun r u h => ⟨_, h.1⟩) (fun v u1 r2 u2 hu1 hu2 hp1 hp2 => ?_)
      obtain ⟨hv, rfl⟩ := hp1
      obtain ⟨rfl, rfl⟩ := hp2
      obtain rfl := Value.int.inj (Option.some.inj hv)
      exact ⟨rfl, fin8 K (by decide +kernel) (by decide +kernel) rfl I1⟩
    · skip
      refine lw_3 F hJ hS had hj hL ha1 (c_told6 (kpI s.k0 s.k1) s.h s.b (gi [0, nI s.t, s.fp, 0, nI s.ra, s.fd, s.lt, s.ct]) (gi [0, nI s.n, s.g2, s.g3, s.g4, s.g5]) s.sd (nI s.c)) (c_mtold6 (zf s) s.h s.b) (by omega) (by omega) rfl rfl [0, 10, 100, 20, 30, 50] [500, 502, 505] rfl rfl (by decide +kernel) (by decide +kernel) (by decide +kernel) rfl rfl (fun r u h => ⟨_, h.1⟩) (fun v u1 r2 u2 hu1 hu2 hp1 hp2 => ?_)
      obtain ⟨hv, rfl⟩ := hp1
      obtain ⟨rfl, rfl⟩ := hp2
      obtain rfl := Value.int.inj (Option.some.inj hv)
      exact ⟨rfl, fin8 K (by decide +kernel) (by decide +kernel) rfl I1⟩
    · skip
      refine lw_3 F hJ hS had hj hL ha1 (c_told7 (kpI s.k0 s.k1) s.h s.b (gi [0, nI s.t, s.fp, 0, nI s.ra, s.fd, s.lt, s.ct]) (gi [0, nI s.n, s.g2, s.g3, s.g4, s.g5]) s.sd (nI s.c)) (c_mtold7 (zf s) s.h s.b) (by omega) (by omega) rfl rfl [0, 10, 100, 20, 30, 50] [500, 502, 505] rfl rfl (by decide +kernel) (by decide +kernel) (by decide +kernel) rfl rfl (fun r u h => ⟨_, h.1⟩) (fun v u1 r2 u2 hu1 hu2 hp1 hp2 => ?_)
      obtain ⟨hv, rfl⟩ := hp1
      obtain ⟨rfl, rfl⟩ := hp2
      obtain rfl := Value.int.inj (Option.some.inj hv)
      exact ⟨rfl, fin8 K (by decide +kernel) (by decide +kernel) rfl I1⟩
    · skip
      refine lw_3 F hJ hS had hj hL ha1 (c_told8 (kpI s.k0 s.k1) s.h s.b (gi [0, nI s.t, s.fp, 0, nI s.ra, s.fd, s.lt, s.ct]) (gi [0, nI s.n, s.g2, s.g3, s.g4, s.g5]) s.sd (nI s.c)) (c_mtold8 (zf s) s.h s.b) (by omega) (by omega) rfl rfl [0, 10, 100, 20, 30, 50] [500, 502, 505] rfl rfl (by decide +kernel) (by decide +kernel) (by decide +kernel) rfl rfl (fun r u h => ⟨_, h.1⟩) (fun v u1 r2 u2 hu1 hu2 hp1 hp2 => ?_)
      obtain ⟨hv, rfl⟩ := hp1
      obtain ⟨rfl, rfl⟩ := hp2
      obtain rfl := Value.int.inj (Option.some.inj hv)
      exact ⟨rfl, fin8 K (by decide +kernel) (by decide +kernel) rfl I1⟩
    · skip
      refine lw_3 F hJ hS had hj hL ha1 (c_told9 (kpI s.k0 s.k1) s.h s.b (gi [0, nI s.t, s.fp, 0, nI s.ra, s.fd, s.lt, s.ct]) (gi [0, nI s.n, s.g2, s.g3, s.g4, s.g5]) s.sd (nI s.c)) (c_mtold9 (zf s) s.h s.b) (by omega) (by omega) rfl rfl [0, 10, 100, 20, 30, 50] [500, 502, 505] rfl rfl (by decide +kernel) (by decide +kernel) (by decide +kernel) rfl rfl (fun r u h => ⟨_, h.1⟩) (fun v u1 r2 u2 hu1 hu2 hp1 hp2 => ?_)
      obtain ⟨hv, rfl⟩ := hp1
      obtain ⟨rfl, rfl⟩ := hp2
      obtain rfl := Value.int.inj (Option.some.inj hv)
      exact ⟨rfl, fin8 K (by decide +kernel) (by decide +kernel) rfl I1⟩
    · skip
      refine lw_3 F hJ hS had hj hL ha1 (c_told10 (kpI s.k0 s.k1) s.h s.b (gi [0, nI s.t, s.fp, 0, nI s.ra, s.fd, s.lt, s.ct]) (gi [0, nI s.n, s.g2, s.g3, s.g4, s.g5]) s.sd (nI s.c)) (c_mtold10 (zf s) s.h s.b) (by omega) (by omega) rfl rfl [0, 10, 100, 20, 30, 50] [500, 502, 505] rfl rfl (by decide +kernel) (by decide +kernel) (by decide +kernel) rfl rfl (fun r u h => ⟨_, h.1⟩) (fun v u1 r2 u2 hu1 hu2 hp1 hp2 => ?_)
      obtain ⟨hv, rfl⟩ := hp1
      obtain ⟨rfl, rfl⟩ := hp2
      obtain rfl := Value.int.inj (Option.some.inj hv)
      exact ⟨rfl, fin8 K (by decide +kernel) (by decide +kernel) rfl I1⟩
    · skip
      refine lw_3 F hJ hS had hj hL ha1 (c_told11 (kpI s.k0 s.k1) s.h s.b (gi [0, nI s.t, s.fp, 0, nI s.ra, s.fd, s.lt, s.ct]) (gi [0, nI s.n, s.g2, s.g3, s.g4, s.g5]) s.sd (nI s.c)) (c_mtold11 (zf s) s.h s.b) (by omega) (by omega) rfl rfl [0, 10, 100, 20, 30, 50] [500, 502, 505] rfl rfl (by decide +kernel) (by decide +kernel) (by decide +kernel) rfl rfl (fun r u h => ⟨_, h.1⟩) (fun v u1 r2 u2 hu1 hu2 hp1 hp2 => ?_)
      obtain ⟨hv, rfl⟩ := hp1
      obtain ⟨rfl, rfl⟩ := hp2
      obtain rfl := Value.int.inj (Option.some.inj hv)
      exact ⟨rfl, fin8 K (by decide +kernel) (by decide +kernel) rfl I1⟩
set_option maxRecDepth 100000 in
set_option maxHeartbeats 8000000 in
theorem ca_4 {x : Cx} {nm : String} {d : Nat} (F : Fx x cL_law 4 RL nm (some .boolean) d) (hd : 60 ≤ d) {ad : Nat → Nat} {cells slots : Nat} (hJ : jSx x ad) {b L : Nat} {xs : Nat → Int32} (hS : Sc x b L xs) (had : ad 900 = b) {j m : Nat} (hj : 4 * j + 4 ≤ L) (hL : L ≤ 2048) (K : Nxt x (ad, cells, slots) j m) {s : S9} (I : Iv m s) : J x 4 (ad, cells, slots) (260, [(0, .ref 900), (1, .ref 0), (2, .ref 500), (3, .int (nI (4 * j)))], [], WD9 s) := by
  have I1 := I.up
  obtain ⟨⟨i1, i2, i3, i4⟩, ⟨i5, i6⟩, ⟨i7, i8, i9, i10⟩, ⟨i11, i12⟩, iH, iG, iP, iQ⟩ := I
  obtain ⟨n0, B0, R0, hg⟩ := Hx_Hg iH
  have hn0 := hg.1
  have h0 := hg.2.1
  have hR := Hg_Rok hg
  have hn4 : s.h 0 ≤ 4 := i_le4 h0 hn0
  have hst := iG.2.2.1
  generalize ha1 : xs (4 * j + 1) = a1
  generalize ha2 : xs (4 * j + 2) = a2
  cases hM : imB a1 (s.h 0)
  · skip
    refine lw_4 F hJ hS had hj hL ha1 ha2 (c_memU (kpI s.k0 s.k1) s.h s.b s.sd a1 a2 hM) (c_mmemU (zf s) s.h s.b a1 a2 ((im_in hn0 h0 a1).symm.trans hM)) (by omega) (by omega) rfl rfl [0, 10, 11, 12, 100, 101, 102, 103, 104] [500, 502, 505] rfl rfl (by decide +kernel) (by decide +kernel) (by decide +kernel) rfl rfl (fun r u h => ⟨_, h.1⟩) (fun v u1 r2 u2 hu1 hu2 hp1 hp2 => ?_)
    obtain ⟨hv, rfl⟩ := hp1
    obtain ⟨rfl, rfl⟩ := hp2
    obtain rfl := Value.int.inj (Option.some.inj hv)
    exact ⟨rfl, fin8 K (by decide +kernel) (by decide +kernel) rfl I1⟩
  · cases hI : inB a2 0 7
    · skip
      refine lw_4 F hJ hS had hj hL ha1 ha2 (c_memO (kpI s.k0 s.k1) s.h s.b s.sd a1 a2 hM (inB_toInt hI)) (c_mmemO (zf s) s.h s.b a1 a2 ((im_in hn0 h0 a1).symm.trans hM) hI) (by omega) (by omega) rfl rfl [0, 10, 11, 12, 100, 101, 102, 103, 104] [500, 502, 505] rfl rfl (by decide +kernel) (by decide +kernel) (by decide +kernel) rfl rfl (fun r u h => ⟨_, h.1⟩) (fun v u1 r2 u2 hu1 hu2 hp1 hp2 => ?_)
      obtain ⟨hv, rfl⟩ := hp1
      obtain ⟨rfl, rfl⟩ := hp2
      obtain rfl := Value.int.inj (Option.some.inj hv)
      exact ⟨rfl, fin8 K (by decide +kernel) (by decide +kernel) rfl I1⟩
    · rcases imB_4 hM with rfl | rfl | rfl | rfl
      · rcases in_8 hI with rfl | rfl | rfl | rfl | rfl | rfl | rfl | rfl
        · skip
          refine lw_4 F hJ hS had hj hL ha1 ha2 (c_mem0_0 (kpI s.k0 s.k1) s.h s.b s.sd hM) (c_mmem0_0 (zf s) s.h s.b ((im_in hn0 h0 0).symm.trans hM)) (by omega) (by omega) rfl rfl [0, 10, 11, 12, 100, 101, 102, 103, 104] [500, 502, 505] rfl rfl (by decide +kernel) (by decide +kernel) (by decide +kernel) rfl rfl (fun r u h => ⟨_, h.1⟩) (fun v u1 r2 u2 hu1 hu2 hp1 hp2 => ?_)
          obtain ⟨hv, rfl⟩ := hp1
          obtain ⟨rfl, rfl⟩ := hp2
          obtain rfl := Value.int.inj (Option.some.inj hv)
          exact ⟨rfl, fin8 K (by decide +kernel) (by decide +kernel) rfl I1⟩
        · skip
          refine lw_4 F hJ hS had hj hL ha1 ha2 (c_mem0_1 (kpI s.k0 s.k1) s.h s.b s.sd hM) (c_mmem0_1 (zf s) s.h s.b ((im_in hn0 h0 0).symm.trans hM)) (by omega) (by omega) rfl rfl [0, 10, 11, 12, 100, 101, 102, 103, 104] [500, 502, 505] rfl rfl (by decide +kernel) (by decide +kernel) (by decide +kernel) rfl rfl (fun r u h => ⟨_, h.1⟩) (fun v u1 r2 u2 hu1 hu2 hp1 hp2 => ?_)
          obtain ⟨hv, rfl⟩ := hp1
          obtain ⟨rfl, rfl⟩ := hp2
          obtain rfl := Value.int.inj (Option.some.inj hv)
          exact ⟨rfl, fin8 K (by decide +kernel) (by decide +kernel) rfl I1⟩
        · skip
          refine lw_4 F hJ hS had hj hL ha1 ha2 (c_mem0_2 (kpI s.k0 s.k1) s.h s.b s.sd hM) (c_mmem0_2 (zf s) s.h s.b ((im_in hn0 h0 0).symm.trans hM)) (by omega) (by omega) rfl rfl [0, 10, 11, 12, 100, 101, 102, 103, 104] [500, 502, 505] rfl rfl (by decide +kernel) (by decide +kernel) (by decide +kernel) rfl rfl (fun r u h => ⟨_, h.1⟩) (fun v u1 r2 u2 hu1 hu2 hp1 hp2 => ?_)
          obtain ⟨hv, rfl⟩ := hp1
          obtain ⟨rfl, rfl⟩ := hp2
          obtain rfl := Value.int.inj (Option.some.inj hv)
          exact ⟨rfl, fin8 K (by decide +kernel) (by decide +kernel) rfl I1⟩
        · skip
          refine lw_4 F hJ hS had hj hL ha1 ha2 (c_mem0_3 (kpI s.k0 s.k1) s.h s.b s.sd hM) (c_mmem0_3 (zf s) s.h s.b ((im_in hn0 h0 0).symm.trans hM)) (by omega) (by omega) rfl rfl [0, 10, 11, 12, 100, 101, 102, 103, 104] [500, 502, 505] rfl rfl (by decide +kernel) (by decide +kernel) (by decide +kernel) rfl rfl (fun r u h => ⟨_, h.1⟩) (fun v u1 r2 u2 hu1 hu2 hp1 hp2 => ?_)
          obtain ⟨hv, rfl⟩ := hp1
          obtain ⟨rfl, rfl⟩ := hp2
          obtain rfl := Value.int.inj (Option.some.inj hv)
          exact ⟨rfl, fin8 K (by decide +kernel) (by decide +kernel) rfl I1⟩
        · skip
          refine lw_4 F hJ hS had hj hL ha1 ha2 (c_mem0_4 (kpI s.k0 s.k1) s.h s.b s.sd hM) (c_mmem0_4 (zf s) s.h s.b ((im_in hn0 h0 0).symm.trans hM)) (by omega) (by omega) rfl rfl [0, 10, 11, 12, 100, 101, 102, 103, 104] [500, 502, 505] rfl rfl (by decide +kernel) (by decide +kernel) (by decide +kernel) rfl rfl (fun r u h => ⟨_, h.1⟩) (fun v u1 r2 u2 hu1 hu2 hp1 hp2 => ?_)
          obtain ⟨hv, rfl⟩ := hp1
          obtain ⟨rfl, rfl⟩ := hp2
          obtain rfl := Value.int.inj (Option.some.inj hv)
          exact ⟨rfl, fin8 K (by decide +kernel) (by decide +kernel) rfl I1⟩
        · skip
          refine lw_4 F hJ hS had hj hL ha1 ha2 (c_mem0_5 (kpI s.k0 s.k1) s.h s.b s.sd hM) (c_mmem0_5 (zf s) s.h s.b ((im_in hn0 h0 0).symm.trans hM)) (by omega) (by omega) rfl rfl [0, 10, 11, 12, 100, 101, 102, 103, 104] [500, 502, 505] rfl rfl (by decide +kernel) (by decide +kernel) (by decide +kernel) rfl rfl (fun r u h => ⟨_, h.1⟩) (fun v u1 r2 u2 hu1 hu2 hp1 hp2 => ?_)
          obtain ⟨hv, rfl⟩ := hp1
          obtain ⟨rfl, rfl⟩ := hp2
          obtain rfl := Value.int.inj (Option.some.inj hv)
          exact ⟨(sI (min_sw _ _)), fin8 K (by decide +kernel) (by decide +kernel) rfl I1⟩
        · skip
          refine lw_4 F hJ hS had hj hL ha1 ha2 (c_mem0_6 (kpI s.k0 s.k1) s.h s.b s.sd hM) (c_mmem0_6 (zf s) s.h s.b ((im_in hn0 h0 0).symm.trans hM)) (by omega) (by omega) rfl rfl [0, 10, 11, 12, 100, 101, 102, 103, 104] [500, 502, 505] rfl rfl (by decide +kernel) (by decide +kernel) (by decide +kernel) rfl rfl (fun r u h => ⟨_, h.1⟩) (fun v u1 r2 u2 hu1 hu2 hp1 hp2 => ?_)
          obtain ⟨hv, rfl⟩ := hp1
          obtain ⟨rfl, rfl⟩ := hp2
          obtain rfl := Value.int.inj (Option.some.inj hv)
          exact ⟨rfl, fin8 K (by decide +kernel) (by decide +kernel) rfl I1⟩
        · skip
          refine lw_4 F hJ hS had hj hL ha1 ha2 (c_mem0_7 (kpI s.k0 s.k1) s.h s.b s.sd hM) (c_mmem0_7 (zf s) s.h s.b ((im_in hn0 h0 0).symm.trans hM)) (by omega) (by omega) rfl rfl [0, 10, 11, 12, 100, 101, 102, 103, 104] [500, 502, 505] rfl rfl (by decide +kernel) (by decide +kernel) (by decide +kernel) rfl rfl (fun r u h => ⟨_, h.1⟩) (fun v u1 r2 u2 hu1 hu2 hp1 hp2 => ?_)
          obtain ⟨hv, rfl⟩ := hp1
          obtain ⟨rfl, rfl⟩ := hp2
          obtain rfl := Value.int.inj (Option.some.inj hv)
          exact ⟨rfl, fin8 K (by decide +kernel) (by decide +kernel) rfl I1⟩
      · rcases in_8 hI with rfl | rfl | rfl | rfl | rfl | rfl | rfl | rfl
        · skip
          refine lw_4 F hJ hS had hj hL ha1 ha2 (c_mem1_0 (kpI s.k0 s.k1) s.h s.b s.sd hM) (c_mmem1_0 (zf s) s.h s.b ((im_in hn0 h0 1).symm.trans hM)) (by omega) (by omega) rfl rfl [0, 10, 11, 12, 100, 101, 102, 103, 104] [500, 502, 505] rfl rfl (by decide +kernel) (by decide +kernel) (by decide +kernel) rfl rfl (fun r u h => ⟨_, h.1⟩) (fun v u1 r2 u2 hu1 hu2 hp1 hp2 => ?_)
          obtain ⟨hv, rfl⟩ := hp1
          obtain ⟨rfl, rfl⟩ := hp2
          obtain rfl := Value.int.inj (Option.some.inj hv)
          exact ⟨rfl, fin8 K (by decide +kernel) (by decide +kernel) rfl I1⟩
        · skip
          refine lw_4 F hJ hS had hj hL ha1 ha2 (c_mem1_1 (kpI s.k0 s.k1) s.h s.b s.sd hM) (c_mmem1_1 (zf s) s.h s.b ((im_in hn0 h0 1).symm.trans hM)) (by omega) (by omega) rfl rfl [0, 10, 11, 12, 100, 101, 102, 103, 104] [500, 502, 505] rfl rfl (by decide +kernel) (by decide +kernel) (by decide +kernel) rfl rfl (fun r u h => ⟨_, h.1⟩) (fun v u1 r2 u2 hu1 hu2 hp1 hp2 => ?_)
          obtain ⟨hv, rfl⟩ := hp1
          obtain ⟨rfl, rfl⟩ := hp2
          obtain rfl := Value.int.inj (Option.some.inj hv)
          exact ⟨rfl, fin8 K (by decide +kernel) (by decide +kernel) rfl I1⟩
        · skip
          refine lw_4 F hJ hS had hj hL ha1 ha2 (c_mem1_2 (kpI s.k0 s.k1) s.h s.b s.sd hM) (c_mmem1_2 (zf s) s.h s.b ((im_in hn0 h0 1).symm.trans hM)) (by omega) (by omega) rfl rfl [0, 10, 11, 12, 100, 101, 102, 103, 104] [500, 502, 505] rfl rfl (by decide +kernel) (by decide +kernel) (by decide +kernel) rfl rfl (fun r u h => ⟨_, h.1⟩) (fun v u1 r2 u2 hu1 hu2 hp1 hp2 => ?_)
          obtain ⟨hv, rfl⟩ := hp1
          obtain ⟨rfl, rfl⟩ := hp2
          obtain rfl := Value.int.inj (Option.some.inj hv)
          exact ⟨rfl, fin8 K (by decide +kernel) (by decide +kernel) rfl I1⟩
        · skip
          refine lw_4 F hJ hS had hj hL ha1 ha2 (c_mem1_3 (kpI s.k0 s.k1) s.h s.b s.sd hM) (c_mmem1_3 (zf s) s.h s.b ((im_in hn0 h0 1).symm.trans hM)) (by omega) (by omega) rfl rfl [0, 10, 11, 12, 100, 101, 102, 103, 104] [500, 502, 505] rfl rfl (by decide +kernel) (by decide +kernel) (by decide +kernel) rfl rfl (fun r u h => ⟨_, h.1⟩) (fun v u1 r2 u2 hu1 hu2 hp1 hp2 => ?_)
          obtain ⟨hv, rfl⟩ := hp1
          obtain ⟨rfl, rfl⟩ := hp2
          obtain rfl := Value.int.inj (Option.some.inj hv)
          exact ⟨rfl, fin8 K (by decide +kernel) (by decide +kernel) rfl I1⟩
        · skip
          refine lw_4 F hJ hS had hj hL ha1 ha2 (c_mem1_4 (kpI s.k0 s.k1) s.h s.b s.sd hM) (c_mmem1_4 (zf s) s.h s.b ((im_in hn0 h0 1).symm.trans hM)) (by omega) (by omega) rfl rfl [0, 10, 11, 12, 100, 101, 102, 103, 104] [500, 502, 505] rfl rfl (by decide +kernel) (by decide +kernel) (by decide +kernel) rfl rfl (fun r u h => ⟨_, h.1⟩) (fun v u1 r2 u2 hu1 hu2 hp1 hp2 => ?_)
          obtain ⟨hv, rfl⟩ := hp1
          obtain ⟨rfl, rfl⟩ := hp2
          obtain rfl := Value.int.inj (Option.some.inj hv)
          exact ⟨rfl, fin8 K (by decide +kernel) (by decide +kernel) rfl I1⟩
        · skip
          refine lw_4 F hJ hS had hj hL ha1 ha2 (c_mem1_5 (kpI s.k0 s.k1) s.h s.b s.sd hM) (c_mmem1_5 (zf s) s.h s.b ((im_in hn0 h0 1).symm.trans hM)) (by omega) (by omega) rfl rfl [0, 10, 11, 12, 100, 101, 102, 103, 104] [500, 502, 505] rfl rfl (by decide +kernel) (by decide +kernel) (by decide +kernel) rfl rfl (fun r u h => ⟨_, h.1⟩) (fun v u1 r2 u2 hu1 hu2 hp1 hp2 => ?_)
          obtain ⟨hv, rfl⟩ := hp1
          obtain ⟨rfl, rfl⟩ := hp2
          obtain rfl := Value.int.inj (Option.some.inj hv)
          exact ⟨(sI (min_sw _ _)), fin8 K (by decide +kernel) (by decide +kernel) rfl I1⟩
        · skip
          refine lw_4 F hJ hS had hj hL ha1 ha2 (c_mem1_6 (kpI s.k0 s.k1) s.h s.b s.sd hM) (c_mmem1_6 (zf s) s.h s.b ((im_in hn0 h0 1).symm.trans hM)) (by omega) (by omega) rfl rfl [0, 10, 11, 12, 100, 101, 102, 103, 104] [500, 502, 505] rfl rfl (by decide +kernel) (by decide +kernel) (by decide +kernel) rfl rfl (fun r u h => ⟨_, h.1⟩) (fun v u1 r2 u2 hu1 hu2 hp1 hp2 => ?_)
          obtain ⟨hv, rfl⟩ := hp1
          obtain ⟨rfl, rfl⟩ := hp2
          obtain rfl := Value.int.inj (Option.some.inj hv)
          exact ⟨rfl, fin8 K (by decide +kernel) (by decide +kernel) rfl I1⟩
        · skip
          refine lw_4 F hJ hS had hj hL ha1 ha2 (c_mem1_7 (kpI s.k0 s.k1) s.h s.b s.sd hM) (c_mmem1_7 (zf s) s.h s.b ((im_in hn0 h0 1).symm.trans hM)) (by omega) (by omega) rfl rfl [0, 10, 11, 12, 100, 101, 102, 103, 104] [500, 502, 505] rfl rfl (by decide +kernel) (by decide +kernel) (by decide +kernel) rfl rfl (fun r u h => ⟨_, h.1⟩) (fun v u1 r2 u2 hu1 hu2 hp1 hp2 => ?_)
          obtain ⟨hv, rfl⟩ := hp1
          obtain ⟨rfl, rfl⟩ := hp2
          obtain rfl := Value.int.inj (Option.some.inj hv)
          exact ⟨rfl, fin8 K (by decide +kernel) (by decide +kernel) rfl I1⟩
      · rcases in_8 hI with rfl | rfl | rfl | rfl | rfl | rfl | rfl | rfl
        · skip
          refine lw_4 F hJ hS had hj hL ha1 ha2 (c_mem2_0 (kpI s.k0 s.k1) s.h s.b s.sd hM) (c_mmem2_0 (zf s) s.h s.b ((im_in hn0 h0 2).symm.trans hM)) (by omega) (by omega) rfl rfl [0, 10, 11, 12, 100, 101, 102, 103, 104] [500, 502, 505] rfl rfl (by decide +kernel) (by decide +kernel) (by decide +kernel) rfl rfl (fun r u h => ⟨_, h.1⟩) (fun v u1 r2 u2 hu1 hu2 hp1 hp2 => ?_)
          obtain ⟨hv, rfl⟩ := hp1
          obtain ⟨rfl, rfl⟩ := hp2
          obtain rfl := Value.int.inj (Option.some.inj hv)
          exact ⟨rfl, fin8 K (by decide +kernel) (by decide +kernel) rfl I1⟩
        · skip
          refine lw_4 F hJ hS had hj hL ha1 ha2 (c_mem2_1 (kpI s.k0 s.k1) s.h s.b s.sd hM) (c_mmem2_1 (zf s) s.h s.b ((im_in hn0 h0 2).symm.trans hM)) (by omega) (by omega) rfl rfl [0, 10, 11, 12, 100, 101, 102, 103, 104] [500, 502, 505] rfl rfl (by decide +kernel) (by decide +kernel) (by decide +kernel) rfl rfl (fun r u h => ⟨_, h.1⟩) (fun v u1 r2 u2 hu1 hu2 hp1 hp2 => ?_)
          obtain ⟨hv, rfl⟩ := hp1
          obtain ⟨rfl, rfl⟩ := hp2
          obtain rfl := Value.int.inj (Option.some.inj hv)
          exact ⟨rfl, fin8 K (by decide +kernel) (by decide +kernel) rfl I1⟩
        · skip
          refine lw_4 F hJ hS had hj hL ha1 ha2 (c_mem2_2 (kpI s.k0 s.k1) s.h s.b s.sd hM) (c_mmem2_2 (zf s) s.h s.b ((im_in hn0 h0 2).symm.trans hM)) (by omega) (by omega) rfl rfl [0, 10, 11, 12, 100, 101, 102, 103, 104] [500, 502, 505] rfl rfl (by decide +kernel) (by decide +kernel) (by decide +kernel) rfl rfl (fun r u h => ⟨_, h.1⟩) (fun v u1 r2 u2 hu1 hu2 hp1 hp2 => ?_)
          obtain ⟨hv, rfl⟩ := hp1
          obtain ⟨rfl, rfl⟩ := hp2
          obtain rfl := Value.int.inj (Option.some.inj hv)
          exact ⟨rfl, fin8 K (by decide +kernel) (by decide +kernel) rfl I1⟩
        · skip
          refine lw_4 F hJ hS had hj hL ha1 ha2 (c_mem2_3 (kpI s.k0 s.k1) s.h s.b s.sd hM) (c_mmem2_3 (zf s) s.h s.b ((im_in hn0 h0 2).symm.trans hM)) (by omega) (by omega) rfl rfl [0, 10, 11, 12, 100, 101, 102, 103, 104] [500, 502, 505] rfl rfl (by decide +kernel) (by decide +kernel) (by decide +kernel) rfl rfl (fun r u h => ⟨_, h.1⟩) (fun v u1 r2 u2 hu1 hu2 hp1 hp2 => ?_)
          obtain ⟨hv, rfl⟩ := hp1
          obtain ⟨rfl, rfl⟩ := hp2
          obtain rfl := Value.int.inj (Option.some.inj hv)
          exact ⟨rfl, fin8 K (by decide +kernel) (by decide +kernel) rfl I1⟩
        · skip
          refine lw_4 F hJ hS had hj hL ha1 ha2 (c_mem2_4 (kpI s.k0 s.k1) s.h s.b s.sd hM) (c_mmem2_4 (zf s) s.h s.b ((im_in hn0 h0 2).symm.trans hM)) (by omega) (by omega) rfl rfl [0, 10, 11, 12, 100, 101, 102, 103, 104] [500, 502, 505] rfl rfl (by decide +kernel) (by decide +kernel) (by decide +kernel) rfl rfl (fun r u h => ⟨_, h.1⟩) (fun v u1 r2 u2 hu1 hu2 hp1 hp2 => ?_)
          obtain ⟨hv, rfl⟩ := hp1
          obtain ⟨rfl, rfl⟩ := hp2
          obtain rfl := Value.int.inj (Option.some.inj hv)
          exact ⟨rfl, fin8 K (by decide +kernel) (by decide +kernel) rfl I1⟩
        · skip
          refine lw_4 F hJ hS had hj hL ha1 ha2 (c_mem2_5 (kpI s.k0 s.k1) s.h s.b s.sd hM) (c_mmem2_5 (zf s) s.h s.b ((im_in hn0 h0 2).symm.trans hM)) (by omega) (by omega) rfl rfl [0, 10, 11, 12, 100, 101, 102, 103, 104] [500, 502, 505] rfl rfl (by decide +kernel) (by decide +kernel) (by decide +kernel) rfl rfl (fun r u h => ⟨_, h.1⟩) (fun v u1 r2 u2 hu1 hu2 hp1 hp2 => ?_)
          obtain ⟨hv, rfl⟩ := hp1
          obtain ⟨rfl, rfl⟩ := hp2
          obtain rfl := Value.int.inj (Option.some.inj hv)
          exact ⟨(sI (min_sw _ _)), fin8 K (by decide +kernel) (by decide +kernel) rfl I1⟩
        · skip
          refine lw_4 F hJ hS had hj hL ha1 ha2 (c_mem2_6 (kpI s.k0 s.k1) s.h s.b s.sd hM) (c_mmem2_6 (zf s) s.h s.b ((im_in hn0 h0 2).symm.trans hM)) (by omega) (by omega) rfl rfl [0, 10, 11, 12, 100, 101, 102, 103, 104] [500, 502, 505] rfl rfl (by decide +kernel) (by decide +kernel) (by decide +kernel) rfl rfl (fun r u h => ⟨_, h.1⟩) (fun v u1 r2 u2 hu1 hu2 hp1 hp2 => ?_)
          obtain ⟨hv, rfl⟩ := hp1
          obtain ⟨rfl, rfl⟩ := hp2
          obtain rfl := Value.int.inj (Option.some.inj hv)
          exact ⟨rfl, fin8 K (by decide +kernel) (by decide +kernel) rfl I1⟩
        · skip
          refine lw_4 F hJ hS had hj hL ha1 ha2 (c_mem2_7 (kpI s.k0 s.k1) s.h s.b s.sd hM) (c_mmem2_7 (zf s) s.h s.b ((im_in hn0 h0 2).symm.trans hM)) (by omega) (by omega) rfl rfl [0, 10, 11, 12, 100, 101, 102, 103, 104] [500, 502, 505] rfl rfl (by decide +kernel) (by decide +kernel) (by decide +kernel) rfl rfl (fun r u h => ⟨_, h.1⟩) (fun v u1 r2 u2 hu1 hu2 hp1 hp2 => ?_)
          obtain ⟨hv, rfl⟩ := hp1
          obtain ⟨rfl, rfl⟩ := hp2
          obtain rfl := Value.int.inj (Option.some.inj hv)
          exact ⟨rfl, fin8 K (by decide +kernel) (by decide +kernel) rfl I1⟩
      · rcases in_8 hI with rfl | rfl | rfl | rfl | rfl | rfl | rfl | rfl
        · skip
          refine lw_4 F hJ hS had hj hL ha1 ha2 (c_mem3_0 (kpI s.k0 s.k1) s.h s.b s.sd hM) (c_mmem3_0 (zf s) s.h s.b ((im_in hn0 h0 3).symm.trans hM)) (by omega) (by omega) rfl rfl [0, 10, 11, 12, 100, 101, 102, 103, 104] [500, 502, 505] rfl rfl (by decide +kernel) (by decide +kernel) (by decide +kernel) rfl rfl (fun r u h => ⟨_, h.1⟩) (fun v u1 r2 u2 hu1 hu2 hp1 hp2 => ?_)
          obtain ⟨hv, rfl⟩ := hp1
          obtain ⟨rfl, rfl⟩ := hp2
          obtain rfl := Value.int.inj (Option.some.inj hv)
          exact ⟨rfl, fin8 K (by decide +kernel) (by decide +kernel) rfl I1⟩
        · skip
          refine lw_4 F hJ hS had hj hL ha1 ha2 (c_mem3_1 (kpI s.k0 s.k1) s.h s.b s.sd hM) (c_mmem3_1 (zf s) s.h s.b ((im_in hn0 h0 3).symm.trans hM)) (by omega) (by omega) rfl rfl [0, 10, 11, 12, 100, 101, 102, 103, 104] [500, 502, 505] rfl rfl (by decide +kernel) (by decide +kernel) (by decide +kernel) rfl rfl (fun r u h => ⟨_, h.1⟩) (fun v u1 r2 u2 hu1 hu2 hp1 hp2 => ?_)
          obtain ⟨hv, rfl⟩ := hp1
          obtain ⟨rfl, rfl⟩ := hp2
          obtain rfl := Value.int.inj (Option.some.inj hv)
          exact ⟨rfl, fin8 K (by decide +kernel) (by decide +kernel) rfl I1⟩
        · skip
          refine lw_4 F hJ hS had hj hL ha1 ha2 (c_mem3_2 (kpI s.k0 s.k1) s.h s.b s.sd hM) (c_mmem3_2 (zf s) s.h s.b ((im_in hn0 h0 3).symm.trans hM)) (by omega) (by omega) rfl rfl [0, 10, 11, 12, 100, 101, 102, 103, 104] [500, 502, 505] rfl rfl (by decide +kernel) (by decide +kernel) (by decide +kernel) rfl rfl (fun r u h => ⟨_, h.1⟩) (fun v u1 r2 u2 hu1 hu2 hp1 hp2 => ?_)
          obtain ⟨hv, rfl⟩ := hp1
          obtain ⟨rfl, rfl⟩ := hp2
          obtain rfl := Value.int.inj (Option.some.inj hv)
          exact ⟨rfl, fin8 K (by decide +kernel) (by decide +kernel) rfl I1⟩
        · skip
          refine lw_4 F hJ hS had hj hL ha1 ha2 (c_mem3_3 (kpI s.k0 s.k1) s.h s.b s.sd hM) (c_mmem3_3 (zf s) s.h s.b ((im_in hn0 h0 3).symm.trans hM)) (by omega) (by omega) rfl rfl [0, 10, 11, 12, 100, 101, 102, 103, 104] [500, 502, 505] rfl rfl (by decide +kernel) (by decide +kernel) (by decide +kernel) rfl rfl (fun r u h => ⟨_, h.1⟩) (fun v u1 r2 u2 hu1 hu2 hp1 hp2 => ?_)
          obtain ⟨hv, rfl⟩ := hp1
          obtain ⟨rfl, rfl⟩ := hp2
          obtain rfl := Value.int.inj (Option.some.inj hv)
          exact ⟨rfl, fin8 K (by decide +kernel) (by decide +kernel) rfl I1⟩
        · skip
          refine lw_4 F hJ hS had hj hL ha1 ha2 (c_mem3_4 (kpI s.k0 s.k1) s.h s.b s.sd hM) (c_mmem3_4 (zf s) s.h s.b ((im_in hn0 h0 3).symm.trans hM)) (by omega) (by omega) rfl rfl [0, 10, 11, 12, 100, 101, 102, 103, 104] [500, 502, 505] rfl rfl (by decide +kernel) (by decide +kernel) (by decide +kernel) rfl rfl (fun r u h => ⟨_, h.1⟩) (fun v u1 r2 u2 hu1 hu2 hp1 hp2 => ?_)
          obtain ⟨hv, rfl⟩ := hp1
          obtain ⟨rfl, rfl⟩ := hp2
          obtain rfl := Value.int.inj (Option.some.inj hv)
          exact ⟨rfl, fin8 K (by decide +kernel) (by decide +kernel) rfl I1⟩
        · skip
          refine lw_4 F hJ hS had hj hL ha1 ha2 (c_mem3_5 (kpI s.k0 s.k1) s.h s.b s.sd hM) (c_mmem3_5 (zf s) s.h s.b ((im_in hn0 h0 3).symm.trans hM)) (by omega) (by omega) rfl rfl [0, 10, 11, 12, 100, 101, 102, 103, 104] [500, 502, 505] rfl rfl (by decide +kernel) (by decide +kernel) (by decide +kernel) rfl rfl (fun r u h => ⟨_, h.1⟩) (fun v u1 r2 u2 hu1 hu2 hp1 hp2 => ?_)
          obtain ⟨hv, rfl⟩ := hp1
          obtain ⟨rfl, rfl⟩ := hp2
          obtain rfl := Value.int.inj (Option.some.inj hv)
          exact ⟨(sI (min_sw _ _)), fin8 K (by decide +kernel) (by decide +kernel) rfl I1⟩
        · skip
          refine lw_4 F hJ hS had hj hL ha1 ha2 (c_mem3_6 (kpI s.k0 s.k1) s.h s.b s.sd hM) (c_mmem3_6 (zf s) s.h s.b ((im_in hn0 h0 3).symm.trans hM)) (by omega) (by omega) rfl rfl [0, 10, 11, 12, 100, 101, 102, 103, 104] [500, 502, 505] rfl rfl (by decide +kernel) (by decide +kernel) (by decide +kernel) rfl rfl (fun r u h => ⟨_, h.1⟩) (fun v u1 r2 u2 hu1 hu2 hp1 hp2 => ?_)
          obtain ⟨hv, rfl⟩ := hp1
          obtain ⟨rfl, rfl⟩ := hp2
          obtain rfl := Value.int.inj (Option.some.inj hv)
          exact ⟨rfl, fin8 K (by decide +kernel) (by decide +kernel) rfl I1⟩
        · skip
          refine lw_4 F hJ hS had hj hL ha1 ha2 (c_mem3_7 (kpI s.k0 s.k1) s.h s.b s.sd hM) (c_mmem3_7 (zf s) s.h s.b ((im_in hn0 h0 3).symm.trans hM)) (by omega) (by omega) rfl rfl [0, 10, 11, 12, 100, 101, 102, 103, 104] [500, 502, 505] rfl rfl (by decide +kernel) (by decide +kernel) (by decide +kernel) rfl rfl (fun r u h => ⟨_, h.1⟩) (fun v u1 r2 u2 hu1 hu2 hp1 hp2 => ?_)
          obtain ⟨hv, rfl⟩ := hp1
          obtain ⟨rfl, rfl⟩ := hp2
          obtain rfl := Value.int.inj (Option.some.inj hv)
          exact ⟨rfl, fin8 K (by decide +kernel) (by decide +kernel) rfl I1⟩
set_option maxRecDepth 100000 in
set_option maxHeartbeats 8000000 in
theorem ca_10 {x : Cx} {nm : String} {d : Nat} (F : Fx x cL_law 4 RL nm (some .boolean) d) (hd : 60 ≤ d) {ad : Nat → Nat} {cells slots : Nat} (hJ : jSx x ad) {b L : Nat} {xs : Nat → Int32} (hS : Sc x b L xs) (had : ad 900 = b) {j m : Nat} (hj : 4 * j + 4 ≤ L) (hL : L ≤ 2048) (K : Nxt x (ad, cells, slots) j m) {s : S9} (I : Iv m s) : J x 4 (ad, cells, slots) (438, [(0, .ref 900), (1, .ref 0), (2, .ref 500), (3, .int (nI (4 * j)))], [], WD9 s) := by
  have I1 := I.up
  obtain ⟨⟨i1, i2, i3, i4⟩, ⟨i5, i6⟩, ⟨i7, i8, i9, i10⟩, ⟨i11, i12⟩, iH, iG, iP, iQ⟩ := I
  obtain ⟨n0, B0, R0, hg⟩ := Hx_Hg iH
  have hn0 := hg.1
  have h0 := hg.2.1
  have hR := Hg_Rok hg
  have hn4 : s.h 0 ≤ 4 := i_le4 h0 hn0
  have hst := iG.2.2.1
  refine lw_10 F hJ hS had hj hL (c_drop (kpI s.k0 s.k1) (gi [0, nI s.n, s.g2, s.g3, s.g4, s.g5])) (c_mdrop (zf s)) (by omega) (by omega) rfl rfl [0, 30] [500] rfl rfl (by decide +kernel) (by decide +kernel) (by decide +kernel) rfl rfl (fun r u h => ⟨_, h.1⟩) (fun v u1 r2 u2 hu1 hu2 hp1 hp2 => ?_)
  obtain ⟨hv, rfl⟩ := hp1
  obtain ⟨rfl, rfl⟩ := hp2
  obtain rfl := Value.int.inj (Option.some.inj hv)
  exact ⟨rfl, fin9 K s.h s.dh s.b s.tb s.p s.q s.pm s.qm s.nb s.w32 s.v32 s.y28 s.ot s.dl s.rb s.rs s.ty s.tx s.ps s.gs s.ls s.st9 s.mt9 s.sd s.ts s.s0 s.s1 s.fp s.fd s.lt s.ct s.g2 s.g3 s.g4 s.g5 s.a2 s.a3 s.a4 s.e0 s.e1 s.e2 s.m18 s.m21 s.m22 s.m23 s.m26 s.ab s.t s.ra 0 s.c s.m17 s.m19 s.m20 s.k0 s.k1 (by decide +kernel) (by decide +kernel) s.b (Eq25.rf _) rfl rfl ⟨I1.1, ⟨i5, Nat.zero_le _⟩, I1.2.2.1, I1.2.2.2.1, I1.2.2.2.2.1, I1.2.2.2.2.2.1, I1.2.2.2.2.2.2.1, I1.2.2.2.2.2.2.2⟩⟩
set_option maxRecDepth 100000 in
set_option maxHeartbeats 8000000 in
theorem ca_19 {x : Cx} {nm : String} {d : Nat} (F : Fx x cL_law 4 RL nm (some .boolean) d) (hd : 60 ≤ d) {ad : Nat → Nat} {cells slots : Nat} (hJ : jSx x ad) {b L : Nat} {xs : Nat → Int32} (hS : Sc x b L xs) (had : ad 900 = b) {j m : Nat} (hj : 4 * j + 4 ≤ L) (hL : L ≤ 2048) (K : Nxt x (ad, cells, slots) j m) {s : S9} (I : Iv m s) : J x 4 (ad, cells, slots) (655, [(0, .ref 900), (1, .ref 0), (2, .ref 500), (3, .int (nI (4 * j)))], [], WD9 s) := by
  have I1 := I.up
  obtain ⟨⟨i1, i2, i3, i4⟩, ⟨i5, i6⟩, ⟨i7, i8, i9, i10⟩, ⟨i11, i12⟩, iH, iG, iP, iQ⟩ := I
  obtain ⟨n0, B0, R0, hg⟩ := Hx_Hg iH
  have hn0 := hg.1
  have h0 := hg.2.1
  have hR := Hg_Rok hg
  have hn4 : s.h 0 ≤ 4 := i_le4 h0 hn0
  have hst := iG.2.2.1
  refine lw_19 F hJ hS had hj hL (c_tear (kpI s.k0 s.k1) (nI s.c)) (c_mtear (zf s)) (by omega) (by omega) rfl rfl [0, 50] [500] rfl rfl (by decide +kernel) (by decide +kernel) (by decide +kernel) rfl rfl (fun r u h => ⟨_, h.1⟩) (fun v u1 r2 u2 hu1 hu2 hp1 hp2 => ?_)
  obtain ⟨hv, rfl⟩ := hp1
  obtain ⟨rfl, rfl⟩ := hp2
  obtain rfl := Value.int.inj (Option.some.inj hv)
  exact ⟨rfl, fin9 K s.h s.dh s.b s.tb s.p s.q s.pm s.qm s.nb s.w32 s.v32 s.y28 s.ot s.dl s.rb s.rs s.ty s.tx s.ps s.gs s.ls s.st9 s.mt9 s.sd s.ts s.s0 s.s1 s.fp s.fd s.lt s.ct s.g2 s.g3 s.g4 s.g5 s.a2 s.a3 s.a4 s.e0 s.e1 s.e2 s.m18 s.m21 s.m22 s.m23 s.m26 s.ab s.t s.ra s.n 0 s.m17 s.m19 s.m20 s.k0 s.k1 (by decide +kernel) (by decide +kernel) s.b (Eq25.rf _) rfl rfl ⟨I1.1, I1.2.1, ⟨i7, i8, Nat.zero_le _, fun i h => absurd h (Nat.not_lt_zero i), fun i h => absurd h (Nat.not_lt_zero i)⟩, I1.2.2.2.1, I1.2.2.2.2.1, I1.2.2.2.2.2.1, I1.2.2.2.2.2.2.1, I1.2.2.2.2.2.2.2⟩⟩
set_option maxRecDepth 100000 in
set_option maxHeartbeats 8000000 in
theorem ca_22 {x : Cx} {nm : String} {d : Nat} (F : Fx x cL_law 4 RL nm (some .boolean) d) (hd : 60 ≤ d) {ad : Nat → Nat} {cells slots : Nat} (hJ : jSx x ad) {b L : Nat} {xs : Nat → Int32} (hS : Sc x b L xs) (had : ad 900 = b) {j m : Nat} (hj : 4 * j + 4 ≤ L) (hL : L ≤ 2048) (K : Nxt x (ad, cells, slots) j m) {s : S9} (I : Iv m s) : J x 4 (ad, cells, slots) (704, [(0, .ref 900), (1, .ref 0), (2, .ref 500), (3, .int (nI (4 * j)))], [], WD9 s) := by
  have I1 := I.up
  obtain ⟨⟨i1, i2, i3, i4⟩, ⟨i5, i6⟩, ⟨i7, i8, i9, i10⟩, ⟨i11, i12⟩, iH, iG, iP, iQ⟩ := I
  obtain ⟨n0, B0, R0, hg⟩ := Hx_Hg iH
  have hn0 := hg.1
  have h0 := hg.2.1
  have hR := Hg_Rok hg
  have hn4 : s.h 0 ≤ 4 := i_le4 h0 hn0
  have hst := iG.2.2.1
  generalize ha1 : xs (4 * j + 1) = a1
  by_cases hv9 : a1 < 0
  · skip
    refine lw_22 F hJ hS had hj hL ha1 (c_seed_f (kpI s.k0 s.k1) s.b s.sd a1 hv9) (c_mseed_f (zf s) a1 hv9) (by omega) (by omega) rfl rfl [0, 100] [500] rfl rfl (by decide +kernel) (by decide +kernel) (by decide +kernel) rfl rfl (fun r u h => ⟨_, h.1⟩) (fun v u1 r2 u2 hu1 hu2 hp1 hp2 => ?_)
    obtain ⟨hv, rfl⟩ := hp1
    obtain ⟨rfl, rfl⟩ := hp2
    obtain rfl := Value.int.inj (Option.some.inj hv)
    exact ⟨rfl, fin8 K (by decide +kernel) (by decide +kernel) rfl I1⟩
  · skip
    refine lw_22 F hJ hS had hj hL ha1 (c_seed_t (kpI s.k0 s.k1) s.b s.sd a1 hv9) (c_mseed_t (zf s) a1 hv9) (by omega) (by omega) rfl rfl [0, 100] [500] rfl rfl (by decide +kernel) (by decide +kernel) (by decide +kernel) rfl rfl (fun r u h => ⟨_, h.1⟩) (fun v u1 r2 u2 hu1 hu2 hp1 hp2 => ?_)
    obtain ⟨hv, rfl⟩ := hp1
    obtain ⟨rfl, rfl⟩ := hp2
    obtain rfl := Value.int.inj (Option.some.inj hv)
    exact ⟨rfl, fin9 K s.h s.dh s.b s.tb s.p s.q s.pm s.qm s.nb s.w32 s.v32 s.y28 s.ot s.dl s.rb s.rs s.ty s.tx s.ps s.gs s.ls s.st9 s.mt9 a1 s.ts s.s0 s.s1 s.fp s.fd s.lt s.ct s.g2 s.g3 s.g4 s.g5 s.a2 s.a3 s.a4 s.e0 s.e1 s.e2 s.m18 s.m21 s.m22 s.m23 s.m26 s.ab s.t s.ra s.n s.c s.m17 s.m19 s.m20 s.k0 s.k1 (by decide +kernel) (by decide +kernel) s.b (Eq25.rf _) rfl rfl I1⟩
