theorem sr_c : ∀ c, c < 8 → (nI c - 1).toInt = (c : Int) - 1 := by decide +kernel
theorem sr_hi {a : Int32} {c : Nat} (hc : c ≤ 7) (h : nI c ≤ a) : inB a 0 (nI c - 1) = false := by
  refine inB_hi (Int32.lt_iff_toInt_lt.mpr ?_)
  have h1 := Int32.le_iff_toInt_le.mp h
  rw [nI_toInt (by omega)] at h1
  rw [sr_c c (by omega)]
  omega
theorem sr_in {q c : Nat} (hc : c ≤ 7) (hq : q < c) : inB (nI q) 0 (nI c - 1) = true := by
  refine inB_ok (nI_nlt (b := 0) (Nat.zero_le q) (by omega)) (fun z => ?_)
  have h1 := Int32.lt_iff_toInt_lt.mp z
  rw [sr_c c (by omega), nI_toInt (by omega)] at h1
  omega
set_option maxRecDepth 100000 in
set_option maxHeartbeats 8000000 in
theorem ca_20 {x : Cx} {nm : String} {d : Nat} (F : Fx x cL_law 4 RL nm (some .boolean) d) (hd : 60 ≤ d) {ad : Nat → Nat} {cells slots : Nat} (hJ : jSx x ad) {b L : Nat} {xs : Nat → Int32} (hS : Sc x b L xs) (had : ad 900 = b) {j m : Nat} (hj : 4 * j + 4 ≤ L) (hL : L ≤ 2048) (K : Nxt x (ad, cells, slots) j m) {s : S9} (I : Iv m s) : J x 4 (ad, cells, slots) (668, [(0, .ref 900), (1, .ref 0), (2, .ref 500), (3, .int (nI (4 * j)))], [], WD9 s) := by
  have I1 := I.up
  obtain ⟨⟨i1, i2, i3, i4⟩, ⟨i5, i6⟩, ⟨i7, i8, i9, i10⟩, ⟨i11, i12⟩, iH, iG, iP, iQ⟩ := I
  obtain ⟨n0, B0, R0, hg⟩ := Hx_Hg iH
  have hn0 := hg.1
  have h0 := hg.2.1
  have hR := Hg_Rok hg
  have hn4 : s.h 0 ≤ 4 := i_le4 h0 hn0
  have hst := iG.2.2.1
  obtain ⟨B, R, A, E, W, H, hR1, hR0, HH⟩ := St_ex iH hg iG.2.2.2.1
  obtain ⟨gN, lN, r1, r2, r3⟩ := Rc_ex i10
  have hwn : n0 ^ s.c < 100000 := Nat.lt_of_le_of_lt (pow_lim hn0 i9) (by decide)
  have hW : mwy (s.h 0) s.c = nI (n0 ^ s.c) := by rw [h0, mwy_N]
  by_cases hz : n0 = 0 ∧ 0 < s.c
  · have hW0 : mwy (s.h 0) s.c = 0 := by rw [hW, hz.1, Nat.zero_pow hz.2]; rfl
    refine lw_20 F hJ hS had hj hL (c_fits (kpI s.k0 s.k1) s.h s.b s.w32 s.v32 s.y28 s.sd s.gs s.ls i7 i8 s.c i9) (c_mfitsZ (zf s) s.h s.b s.nb s.gs s.ls s.c i9 rfl hW0) (by omega) (by omega) rfl rfl [0, 50, 51, 52, 53, 54, 55, 10, 11, 12, 100, 101, 102, 103] [500, 502, 505, 506, 511, 512] rfl rfl (by decide +kernel) (by decide +kernel) (by decide +kernel) rfl rfl (fun r u h => by obtain ⟨_, _, _, _, _, _, h1, _⟩ := h; exact ⟨_, h1⟩) (fun v u1 r2 u2 hu1 hu2 hp1 hp2 => ?_)
    obtain ⟨wl', dl', yl', g1, g2, g3, hv, rfl⟩ := hp1
    obtain ⟨rfl, rfl⟩ := hp2
    obtain rfl := Value.int.inj (Option.some.inj hv)
    exact ⟨sI (fits_z HH H hz.1 hR0 r1 r2 hz.2).symm, fin9 K s.h s.dh s.b s.tb s.p s.q s.pm s.qm s.nb (gi wl') (gi dl') (gi yl') s.ot s.dl s.rb s.rs s.ty s.tx s.ps s.gs s.ls s.st9 s.mt9 s.sd s.ts s.s0 s.s1 s.fp s.fd s.lt s.ct s.g2 s.g3 s.g4 s.g5 s.a2 s.a3 s.a4 s.e0 s.e1 s.e2 s.m18 s.m21 s.m22 s.m23 s.m26 s.ab s.t s.ra s.n s.c s.m17 s.m19 s.m20 s.k0 s.k1 (by decide +kernel) (by decide +kernel) s.b (Eq25.rf _) (by rw [l32_gi g1, l32_gi g2, l28_gi g3]; rfl) rfl I1⟩
  · have hcn : 0 < s.c → 0 < n0 := fun z => Nat.pos_of_ne_zero (fun q => hz ⟨q, z⟩)
    have hz0 : 0 < s.c → ¬ s.h 0 = 0 := fun z q => by rw [h0] at q; exact nI_ne0 (hcn z) (by omega) q
    refine lw_20 F hJ hS had hj hL (c_fits (kpI s.k0 s.k1) s.h s.b s.w32 s.v32 s.y28 s.sd s.gs s.ls i7 i8 s.c i9) (c_mfits (zf s) s.h s.b s.nb s.gs s.ls i7 i8 s.c i9 rfl gN lN r1 r2 hz0 hn4 hst (n0 ^ s.c) hwn hW) (by omega) (by omega) rfl rfl [0, 50, 51, 52, 53, 54, 55, 10, 11, 12, 100, 101, 102, 103] [500, 502, 505, 506, 511, 512] rfl rfl (by decide +kernel) (by decide +kernel) (by decide +kernel) rfl rfl (fun r u h => by obtain ⟨_, _, _, _, _, _, h1, _⟩ := h; exact ⟨_, h1⟩) (fun v u1 r2 u2 hu1 hu2 hp1 hp2 => ?_)
    obtain ⟨wl', dl', yl', g1, g2, g3, hv, rfl⟩ := hp1
    obtain ⟨d', rfl, rfl⟩ := hp2
    obtain rfl := Value.int.inj (Option.some.inj hv)
    exact ⟨sI (fits_eq hR iG.1 HH H hn0 h0 hR1 hR0 i9 r1 r2 r3 hcn), fin9 K s.h s.dh s.b s.tb s.p s.q s.pm s.qm d' (gi wl') (gi dl') (gi yl') s.ot s.dl s.rb s.rs s.ty s.tx s.ps s.gs s.ls s.st9 s.mt9 s.sd s.ts s.s0 s.s1 s.fp s.fd s.lt s.ct s.g2 s.g3 s.g4 s.g5 s.a2 s.a3 s.a4 s.e0 s.e1 s.e2 s.m18 s.m21 s.m22 s.m23 s.m26 s.ab s.t s.ra s.n s.c s.m17 s.m19 s.m20 s.k0 s.k1 (by decide +kernel) (by decide +kernel) s.b (Eq25.rf _) (by rw [l32_gi g1, l32_gi g2, l28_gi g3]; rfl) rfl I1⟩
set_option maxRecDepth 100000 in
set_option maxHeartbeats 8000000 in
theorem ca_21 {x : Cx} {nm : String} {d : Nat} (F : Fx x cL_law 4 RL nm (some .boolean) d) (hd : 60 ≤ d) {ad : Nat → Nat} {cells slots : Nat} (hJ : jSx x ad) {b L : Nat} {xs : Nat → Int32} (hS : Sc x b L xs) (had : ad 900 = b) {j m : Nat} (hj : 4 * j + 4 ≤ L) (hL : L ≤ 2048) (K : Nxt x (ad, cells, slots) j m) {s : S9} (I : Iv m s) : J x 4 (ad, cells, slots) (681, [(0, .ref 900), (1, .ref 0), (2, .ref 500), (3, .int (nI (4 * j)))], [], WD9 s) := by
  have I1 := I.up
  obtain ⟨⟨i1, i2, i3, i4⟩, ⟨i5, i6⟩, ⟨i7, i8, i9, i10⟩, ⟨i11, i12⟩, iH, iG, iP, iQ⟩ := I
  obtain ⟨n0, B0, R0, hg⟩ := Hx_Hg iH
  have hn0 := hg.1
  have h0 := hg.2.1
  have hR := Hg_Rok hg
  have hn4 : s.h 0 ≤ 4 := i_le4 h0 hn0
  have hst := iG.2.2.1
  generalize ha1 : xs (4 * j + 1) = a1
  obtain ⟨B, R, A, E, W, H, hR1, hR0, HH⟩ := St_ex iH hg iG.2.2.2.1
  obtain ⟨gN, lN, r1, r2, r3⟩ := Rc_ex i10
  have hwn : n0 ^ s.c < 100000 := Nat.lt_of_le_of_lt (pow_lim hn0 i9) (by decide)
  have hW : mwy (s.h 0) s.c = nI (n0 ^ s.c) := by rw [h0, mwy_N]
  by_cases h1 : a1 < 0
  · skip
    refine lw_21 F hJ hS had hj hL ha1 (c_sureO1 (kpI s.k0 s.k1) s.h s.b s.w32 s.v32 s.y28 s.sd s.gs s.ls i7 i8 s.c i9 a1 h1) (c_msureO (zf s) s.h s.b s.nb s.gs s.ls a1 (inB_lo h1)) (by omega) (by omega) rfl rfl [0, 50, 51, 52, 53, 54, 55, 10, 11, 12, 100, 101, 102, 103] [500, 502, 505, 506, 511, 512] rfl rfl (by decide +kernel) (by decide +kernel) (by decide +kernel) rfl rfl (fun r u h => ⟨_, h.1⟩) (fun v u1 r2 u2 hu1 hu2 hp1 hp2 => ?_)
    obtain ⟨hv, rfl⟩ := hp1
    obtain ⟨rfl, rfl⟩ := hp2
    obtain rfl := Value.int.inj (Option.some.inj hv)
    exact ⟨rfl, fin8 K (by decide +kernel) (by decide +kernel) rfl I1⟩
  · by_cases h2 : nI s.c ≤ a1
    · skip
      refine lw_21 F hJ hS had hj hL ha1 (c_sureO2 (kpI s.k0 s.k1) s.h s.b s.w32 s.v32 s.y28 s.sd s.gs s.ls i7 i8 s.c i9 a1 h1 h2) (c_msureO (zf s) s.h s.b s.nb s.gs s.ls a1 (sr_hi i9 h2)) (by omega) (by omega) rfl rfl [0, 50, 51, 52, 53, 54, 55, 10, 11, 12, 100, 101, 102, 103] [500, 502, 505, 506, 511, 512] rfl rfl (by decide +kernel) (by decide +kernel) (by decide +kernel) rfl rfl (fun r u h => ⟨_, h.1⟩) (fun v u1 r2 u2 hu1 hu2 hp1 hp2 => ?_)
      obtain ⟨hv, rfl⟩ := hp1
      obtain ⟨rfl, rfl⟩ := hp2
      obtain rfl := Value.int.inj (Option.some.inj hv)
      exact ⟨rfl, fin8 K (by decide +kernel) (by decide +kernel) rfl I1⟩
    · obtain ⟨q, hq31, rfl⟩ := nI_of h1
      have hq : q < s.c := Nat.not_le.mp (fun z => h2 (nI_le z hq31))
      by_cases hz : n0 = 0
      · have hW0 : mwy (s.h 0) s.c = 0 := by rw [hW, hz, Nat.zero_pow (by omega)]; rfl
        refine lw_21 F hJ hS had hj hL ha1 (c_sure (kpI s.k0 s.k1) s.h s.b s.w32 s.v32 s.y28 s.sd s.gs s.ls i7 i8 s.c i9 q hq) (c_msureZ (zf s) s.h s.b s.nb s.gs s.ls s.c i9 rfl hW0 (nI q) (sr_in i9 hq)) (by omega) (by omega) rfl rfl [0, 50, 51, 52, 53, 54, 55, 10, 11, 12, 100, 101, 102, 103] [500, 502, 505, 506, 511, 512] rfl rfl (by decide +kernel) (by decide +kernel) (by decide +kernel) rfl rfl (fun r u h => by obtain ⟨_, _, _, _, _, _, h1, _⟩ := h; exact ⟨_, h1⟩) (fun v u1 r2 u2 hu1 hu2 hp1 hp2 => ?_)
        obtain ⟨wl', dl', yl', g1, g2, g3, hv, rfl⟩ := hp1
        obtain ⟨rfl, rfl⟩ := hp2
        obtain rfl := Value.int.inj (Option.some.inj hv)
        exact ⟨sI (by unfold osA; rw [fits_z HH H hz hR0 r1 r2 (by omega), if_pos rfl]), fin9 K s.h s.dh s.b s.tb s.p s.q s.pm s.qm s.nb (gi wl') (gi dl') (gi yl') s.ot s.dl s.rb s.rs s.ty s.tx s.ps s.gs s.ls s.st9 s.mt9 s.sd s.ts s.s0 s.s1 s.fp s.fd s.lt s.ct s.g2 s.g3 s.g4 s.g5 s.a2 s.a3 s.a4 s.e0 s.e1 s.e2 s.m18 s.m21 s.m22 s.m23 s.m26 s.ab s.t s.ra s.n s.c s.m17 s.m19 s.m20 s.k0 s.k1 (by decide +kernel) (by decide +kernel) s.b (Eq25.rf _) (by rw [l32_gi g1, l32_gi g2, l28_gi g3]; rfl) rfl I1⟩
      · have hz0 : 0 < s.c → ¬ s.h 0 = 0 := fun _ q => by rw [h0] at q; exact nI_ne0 (Nat.pos_of_ne_zero hz) (by omega) q
        refine lw_21 F hJ hS had hj hL ha1 (c_sure (kpI s.k0 s.k1) s.h s.b s.w32 s.v32 s.y28 s.sd s.gs s.ls i7 i8 s.c i9 q hq) (c_msure (zf s) s.h s.b s.nb s.gs s.ls i7 i8 s.c i9 rfl gN lN r1 r2 hz0 hn4 hst (n0 ^ s.c) hwn hW q hq (sr_in i9 hq)) (by omega) (by omega) rfl rfl [0, 50, 51, 52, 53, 54, 55, 10, 11, 12, 100, 101, 102, 103] [500, 502, 505, 506, 511, 512] rfl rfl (by decide +kernel) (by decide +kernel) (by decide +kernel) rfl rfl (fun r u h => by obtain ⟨_, _, _, _, _, _, h1, _⟩ := h; exact ⟨_, h1⟩) (fun v u1 r2 u2 hu1 hu2 hp1 hp2 => ?_)
        obtain ⟨wl', dl', yl', g1, g2, g3, hv, rfl⟩ := hp1
        obtain ⟨d', rfl, rfl⟩ := hp2
        obtain rfl := Value.int.inj (Option.some.inj hv)
        exact ⟨sI (sure_eq hR iG.1 HH H (Nat.pos_of_ne_zero hz) hn0 h0 hR1 hR0 i9 hq r1 r2 r3), fin9 K s.h s.dh s.b s.tb s.p s.q s.pm s.qm d' (gi wl') (gi dl') (gi yl') s.ot s.dl s.rb s.rs s.ty s.tx s.ps s.gs s.ls s.st9 s.mt9 s.sd s.ts s.s0 s.s1 s.fp s.fd s.lt s.ct s.g2 s.g3 s.g4 s.g5 s.a2 s.a3 s.a4 s.e0 s.e1 s.e2 s.m18 s.m21 s.m22 s.m23 s.m26 s.ab s.t s.ra s.n s.c s.m17 s.m19 s.m20 s.k0 s.k1 (by decide +kernel) (by decide +kernel) s.b (Eq25.rf _) (by rw [l32_gi g1, l32_gi g2, l28_gi g3]; rfl) rfl I1⟩
