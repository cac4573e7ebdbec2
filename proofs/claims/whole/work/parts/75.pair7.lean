theorem finA {x : Cx} {g : (Nat → Nat) × Nat × Nat} {j m : Nat} (K : Nxt x g j m) {ks1 ks2 : List Nat} {u1 u2 : Pw} {s : S9} (h : Nat → Int32) (dh : Nat → Int32) (b : Nat → Int32) (tb : Nat → Int32) (p : Nat → Int32) (q : Nat → Int32) (pm : Nat → Int32) (qm : Nat → Int32) (nb : Nat → Int32) (w32 : Nat → Int32) (v32 : Nat → Int32) (y28 : Nat → Int32) (ot : Nat → Int32) (dl : Nat → Int32) (rb : Nat → Nat → Int32) (rs : Nat → Int32) (ty : List Int32) (tx : List Int32) (ps : List Int32) (gs : List Int32) (ls : List Int32) (st9 : List Int32) (mt9 : List Int32) (sd : Int32) (ts : Int32) (s0 : Int32) (s1 : Int32) (fp : Int32) (fd : Int32) (lt : Int32) (ct : Int32) (g2 : Int32) (g3 : Int32) (g4 : Int32) (g5 : Int32) (a2 : Int32) (a3 : Int32) (a4 : Int32) (e0 : Int32) (e1 : Int32) (e2 : Int32) (m18 : Int32) (m21 : Int32) (m22 : Int32) (m23 : Int32) (m26 : Int32) (ab : Int64) (t : Nat) (ra : Nat) (n : Nat) (c : Nat) (m17 : Nat) (m19 : Nat) (m20 : Nat) (k0 : Bool) (k1 : Bool) (bc : Nat → Int32) (E : Eq25 bc b) (e : putW ks2 u2 (putW ks1 u1 (WD9 s)) = LCL h dh b tb p q pm qm nb w32 v32 y28 ot dl rb rs ty tx ps gs ls st9 mt9 sd ts s0 s1 fp fd lt ct g2 g3 g4 g5 a2 a3 a4 e0 e1 e2 m18 m21 m22 m23 m26 ab t ra n c m17 m19 m20 k0 k1 bc ++ ARW rb rs) (I : IvF (m + 1) h b p q pm qm ty tx ps gs ls st9 mt9 t n c k0 k1) : J x 4 g (773, [(0, .ref 900), (1, .ref 0), (2, .ref 500), (3, .int (nI (4 * j)))], [], putW ks2 u2 (putW ks1 u1 (WD9 s))) := by
  have hWE : putW ks2 u2 (putW ks1 u1 (WD9 s)) = WD9 (mk9 h dh b tb p q pm qm nb w32 v32 y28 ot dl rb rs ty tx ps gs ls st9 mt9 sd ts s0 s1 fp fd lt ct g2 g3 g4 g5 a2 a3 a4 e0 e1 e2 m18 m21 m22 m23 m26 ab t ra n c m17 m19 m20 k0 k1) := by
    rw [e, ← LCX_mk9, LCX_25 E]
    rfl
  rw [hWE]
  exact K _ (Iv_mk9 h dh b tb p q pm qm nb w32 v32 y28 ot dl rb rs ty tx ps gs ls st9 mt9 sd ts s0 s1 fp fd lt ct g2 g3 g4 g5 a2 a3 a4 e0 e1 e2 m18 m21 m22 m23 m26 ab t ra n c m17 m19 m20 k0 k1 I)
theorem finB {x : Cx} {g : (Nat → Nat) × Nat × Nat} {j m : Nat} (K : Nxt x g j m) {ks1 ks2 : List Nat} {u1 u2 : Pw} {s : S9} (e : putW ks2 u2 (putW ks1 u1 (WD9 s)) = WD9 s) (I : IvF (m + 1) s.h s.b s.p s.q s.pm s.qm s.ty s.tx s.ps s.gs s.ls s.st9 s.mt9 s.t s.n s.c s.k0 s.k1) : J x 4 g (773, [(0, .ref 900), (1, .ref 0), (2, .ref 500), (3, .int (nI (4 * j)))], [], putW ks2 u2 (putW ks1 u1 (WD9 s))) := by
  rw [e]
  exact K _ I
set_option maxRecDepth 100000 in
set_option maxHeartbeats 8000000 in
theorem ca_15 {x : Cx} {nm : String} {d : Nat} (F : Fx x cL_law 4 RL nm (some .boolean) d) (hd : 60 ≤ d) {ad : Nat → Nat} {cells slots : Nat} (hJ : jSx x ad) {b L : Nat} {xs : Nat → Int32} (hS : Sc x b L xs) (had : ad 900 = b) {j : Nat} (hj : 4 * j + 4 ≤ L) (hL : L ≤ 2048) (K : Nxt x (ad, cells, slots) j j) {s : S9} (I : Iv j s) : J x 4 (ad, cells, slots) (533, [(0, .ref 900), (1, .ref 0), (2, .ref 500), (3, .int (nI (4 * j)))], [], WD9 s) := by
  have I1 := I.up
  obtain ⟨⟨i1, i2, i3, i4⟩, ⟨i5, i6⟩, ⟨i7, i8, i9, i10⟩, ⟨i11, i12⟩, iH, iG, iP, iQ⟩ := I
  obtain ⟨n0, B0, R0, hg⟩ := Hx_Hg iH
  have hn0 := hg.1
  have h0 := hg.2.1
  have hR := Hg_Rok hg
  have hn4 : s.h 0 ≤ 4 := i_le4 h0 hn0
  have hst := iG.2.2.1
  generalize ha1 : xs (4 * j + 1) = a1
  generalize ha2 : xs (4 * j + 2) = a2
  obtain ⟨nq, q1, q2, q3, q4⟩ : ∃ nq, nq = (if s.n < 12 then s.n else 12) ∧ nq ≤ 12 ∧ nq ≤ s.n ∧ ((s.n < 12 ∧ nq = s.n) ∨ (12 ≤ s.n ∧ s.n ≤ 30 ∧ nq = 12)) := by
    by_cases h : s.n < 12
    · exact ⟨s.n, by rw [if_pos h], by omega, by omega, Or.inl ⟨h, rfl⟩⟩
    · exact ⟨12, by rw [if_neg h], by omega, by omega, Or.inr ⟨by omega, i6, rfl⟩⟩
  cases hM : imB a1 (s.h 0)
  · skip
    refine lw_15 F hJ hS had hj hL ha1 ha2 (c_ansU (kpI s.k0 s.k1) s.h s.b (gi [s.g2, s.g3, s.g4, s.g5]) s.sd s.ps i5 s.n i6 s.rb s.rs s.ot s.a2 s.a3 s.a4 s.ab a1 a2 hM) (c_mansU (zf s) s.h s.b s.nb s.ps a1 a2 ((im_in hn0 h0 a1).symm.trans hM)) (by omega) (by omega) rfl rfl [0, 40, 41, 42, 10, 11, 12, 100, 101, 102, 103, 104, 30, 31, 200, 201, 202, 203, 204, 210, 211, 212, 213, 214, 220, 221, 222, 223, 224, 230, 231, 232, 233, 234, 240, 241, 242, 243, 244, 250, 251, 252, 253, 254, 260, 261, 262, 263, 264, 270, 271, 272, 273, 274, 280, 281, 282, 283, 284, 290, 291, 292, 293, 294, 300, 301, 302, 303, 304, 310, 311, 312, 313, 314, 320, 321, 322, 323, 324] [500, 502, 505, 506, 510] rfl rfl (by decide +kernel) (by decide +kernel) (by decide +kernel) rfl rfl (fun r u h => ⟨_, h.1⟩) (fun v u1 r2 u2 hu1 hu2 hp1 hp2 => ?_)
    obtain ⟨hv, rfl⟩ := hp1
    obtain ⟨rfl, rfl⟩ := hp2
    obtain rfl := Value.int.inj (Option.some.inj hv)
    exact ⟨rfl, finB K rfl I1⟩
  · cases hW : inB a2 0 1
    · rcases inB_sp hW with h1 | ⟨h1, h2⟩
      · skip
        refine lw_15 F hJ hS had hj hL ha1 ha2 (c_ansO1 (kpI s.k0 s.k1) s.h s.b (gi [s.g2, s.g3, s.g4, s.g5]) s.sd s.ps i5 s.n i6 s.rb s.rs s.ot s.a2 s.a3 s.a4 s.ab a1 a2 hM h1) (c_mansO (zf s) s.h s.b s.nb s.ps a1 a2 ((im_in hn0 h0 a1).symm.trans hM) hW) (by omega) (by omega) rfl rfl [0, 40, 41, 42, 10, 11, 12, 100, 101, 102, 103, 104, 30, 31, 200, 201, 202, 203, 204, 210, 211, 212, 213, 214, 220, 221, 222, 223, 224, 230, 231, 232, 233, 234, 240, 241, 242, 243, 244, 250, 251, 252, 253, 254, 260, 261, 262, 263, 264, 270, 271, 272, 273, 274, 280, 281, 282, 283, 284, 290, 291, 292, 293, 294, 300, 301, 302, 303, 304, 310, 311, 312, 313, 314, 320, 321, 322, 323, 324] [500, 502, 505, 506, 510] rfl rfl (by decide +kernel) (by decide +kernel) (by decide +kernel) rfl rfl (fun r u h => ⟨_, h.1⟩) (fun v u1 r2 u2 hu1 hu2 hp1 hp2 => ?_)
        obtain ⟨hv, rfl⟩ := hp1
        obtain ⟨rfl, rfl⟩ := hp2
        obtain rfl := Value.int.inj (Option.some.inj hv)
        exact ⟨rfl, finB K rfl I1⟩
      · skip
        refine lw_15 F hJ hS had hj hL ha1 ha2 (c_ansO2 (kpI s.k0 s.k1) s.h s.b (gi [s.g2, s.g3, s.g4, s.g5]) s.sd s.ps i5 s.n i6 s.rb s.rs s.ot s.a2 s.a3 s.a4 s.ab a1 a2 hM h1 h2) (c_mansO (zf s) s.h s.b s.nb s.ps a1 a2 ((im_in hn0 h0 a1).symm.trans hM) hW) (by omega) (by omega) rfl rfl [0, 40, 41, 42, 10, 11, 12, 100, 101, 102, 103, 104, 30, 31, 200, 201, 202, 203, 204, 210, 211, 212, 213, 214, 220, 221, 222, 223, 224, 230, 231, 232, 233, 234, 240, 241, 242, 243, 244, 250, 251, 252, 253, 254, 260, 261, 262, 263, 264, 270, 271, 272, 273, 274, 280, 281, 282, 283, 284, 290, 291, 292, 293, 294, 300, 301, 302, 303, 304, 310, 311, 312, 313, 314, 320, 321, 322, 323, 324] [500, 502, 505, 506, 510] rfl rfl (by decide +kernel) (by decide +kernel) (by decide +kernel) rfl rfl (fun r u h => ⟨_, h.1⟩) (fun v u1 r2 u2 hu1 hu2 hp1 hp2 => ?_)
        obtain ⟨hv, rfl⟩ := hp1
        obtain ⟨rfl, rfl⟩ := hp2
        obtain rfl := Value.int.inj (Option.some.inj hv)
        exact ⟨rfl, finB K rfl I1⟩
    · rcases imB_4 hM with rfl | rfl | rfl | rfl
      · rcases in_2 hW with rfl | rfl
        · skip
          refine lw_15 F hJ hS had hj hL ha1 ha2 (c_ans0 (kpI s.k0 s.k1) s.h s.b (gi [s.g2, s.g3, s.g4, s.g5]) s.sd s.ps i5 s.n i6 s.rb s.rs s.ot s.a2 s.a3 s.a4 s.ab nq q1 q2 0 (by decide) hM) (c_mans0_0 (zf s) s.h s.b s.nb s.ps i5 s.n nq q4 rfl hn4 hst ((im_in hn0 h0 0).symm.trans hM)) (by omega) (by omega) rfl rfl [0, 40, 41, 42, 10, 11, 12, 100, 101, 102, 103, 104, 30, 31, 200, 201, 202, 203, 204, 210, 211, 212, 213, 214, 220, 221, 222, 223, 224, 230, 231, 232, 233, 234, 240, 241, 242, 243, 244, 250, 251, 252, 253, 254, 260, 261, 262, 263, 264, 270, 271, 272, 273, 274, 280, 281, 282, 283, 284, 290, 291, 292, 293, 294, 300, 301, 302, 303, 304, 310, 311, 312, 313, 314, 320, 321, 322, 323, 324] [500, 502, 505, 506, 510] rfl rfl (by decide +kernel) (by decide +kernel) (by decide +kernel) rfl rfl (fun r u h => by obtain ⟨R', q', h1, h2⟩ := h; exact ⟨_, h1⟩) (fun v u1 r2 u2 hu1 hu2 hp1 hp2 => ?_)
          obtain ⟨R', q', hv, rfl⟩ := hp1
          obtain ⟨d', rfl, rfl⟩ := hp2
          obtain rfl := Value.int.inj (Option.some.inj hv)
          exact ⟨sI (ans_eq (ps := s.ps) (N := s.n) (q := nq) (m := 0) h0 hn0 iG.2.2.2.2 (by decide) (by omega) hR iG.1 q2 q3).1.symm, finA K s.h s.dh s.b s.tb s.p s.q s.pm s.qm d' s.w32 s.v32 s.y28 (oth s.ps s.n 0) s.dl R' q' s.ty s.tx s.ps s.gs s.ls s.st9 s.mt9 s.sd s.ts s.s0 s.s1 s.fp s.fd s.lt s.ct s.g2 s.g3 s.g4 s.g5 (nI nq) (nI 0) (s.b (21 + 0)) s.e0 s.e1 s.e2 s.m18 s.m21 s.m22 s.m23 s.m26 (seF s.h (o12 s.ps s.n 0) 0 (s.b (21 + 0)) nq 12 0 0 s.b 9223372036854775807) s.t s.ra s.n s.c s.m17 s.m19 s.m20 s.k0 s.k1 s.b (Eq25.rf _) rfl I1⟩
        · skip
          refine lw_15 F hJ hS had hj hL ha1 ha2 (c_ans1 (kpI s.k0 s.k1) s.h s.b (gi [s.g2, s.g3, s.g4, s.g5]) s.sd s.ps i5 s.n i6 s.rb s.rs s.ot s.a2 s.a3 s.a4 s.ab nq q1 q2 0 (by decide) hM) (c_mans0_1 (zf s) s.h s.b s.nb s.ps i5 s.n nq q4 rfl hn4 hst ((im_in hn0 h0 0).symm.trans hM)) (by omega) (by omega) rfl rfl [0, 40, 41, 42, 10, 11, 12, 100, 101, 102, 103, 104, 30, 31, 200, 201, 202, 203, 204, 210, 211, 212, 213, 214, 220, 221, 222, 223, 224, 230, 231, 232, 233, 234, 240, 241, 242, 243, 244, 250, 251, 252, 253, 254, 260, 261, 262, 263, 264, 270, 271, 272, 273, 274, 280, 281, 282, 283, 284, 290, 291, 292, 293, 294, 300, 301, 302, 303, 304, 310, 311, 312, 313, 314, 320, 321, 322, 323, 324] [500, 502, 505, 506, 510] rfl rfl (by decide +kernel) (by decide +kernel) (by decide +kernel) rfl rfl (fun r u h => by obtain ⟨R', q', h1, h2⟩ := h; exact ⟨_, h1⟩) (fun v u1 r2 u2 hu1 hu2 hp1 hp2 => ?_)
          obtain ⟨R', q', hv, rfl⟩ := hp1
          obtain ⟨d', rfl, rfl⟩ := hp2
          obtain rfl := Value.int.inj (Option.some.inj hv)
          exact ⟨sI (ans_eq (ps := s.ps) (N := s.n) (q := nq) (m := 0) h0 hn0 iG.2.2.2.2 (by decide) (by omega) hR iG.1 q2 q3).2.symm, finA K s.h s.dh s.b s.tb s.p s.q s.pm s.qm d' s.w32 s.v32 s.y28 (oth s.ps s.n 0) s.dl R' q' s.ty s.tx s.ps s.gs s.ls s.st9 s.mt9 s.sd s.ts s.s0 s.s1 s.fp s.fd s.lt s.ct s.g2 s.g3 s.g4 s.g5 (nI nq) (nI 0) (s.b (21 + 0)) s.e0 s.e1 s.e2 s.m18 s.m21 s.m22 s.m23 s.m26 (seF s.h (o12 s.ps s.n 0) 0 (s.b (21 + 0)) nq 12 0 0 s.b 9223372036854775807) s.t s.ra s.n s.c s.m17 s.m19 s.m20 s.k0 s.k1 s.b (Eq25.rf _) rfl I1⟩
      · rcases in_2 hW with rfl | rfl
        · skip
          refine lw_15 F hJ hS had hj hL ha1 ha2 (c_ans0 (kpI s.k0 s.k1) s.h s.b (gi [s.g2, s.g3, s.g4, s.g5]) s.sd s.ps i5 s.n i6 s.rb s.rs s.ot s.a2 s.a3 s.a4 s.ab nq q1 q2 1 (by decide) hM) (c_mans1_0 (zf s) s.h s.b s.nb s.ps i5 s.n nq q4 rfl hn4 hst ((im_in hn0 h0 1).symm.trans hM)) (by omega) (by omega) rfl rfl [0, 40, 41, 42, 10, 11, 12, 100, 101, 102, 103, 104, 30, 31, 200, 201, 202, 203, 204, 210, 211, 212, 213, 214, 220, 221, 222, 223, 224, 230, 231, 232, 233, 234, 240, 241, 242, 243, 244, 250, 251, 252, 253, 254, 260, 261, 262, 263, 264, 270, 271, 272, 273, 274, 280, 281, 282, 283, 284, 290, 291, 292, 293, 294, 300, 301, 302, 303, 304, 310, 311, 312, 313, 314, 320, 321, 322, 323, 324] [500, 502, 505, 506, 510] rfl rfl (by decide +kernel) (by decide +kernel) (by decide +kernel) rfl rfl (fun r u h => by obtain ⟨R', q', h1, h2⟩ := h; exact ⟨_, h1⟩) (fun v u1 r2 u2 hu1 hu2 hp1 hp2 => ?_)
          obtain ⟨R', q', hv, rfl⟩ := hp1
          obtain ⟨d', rfl, rfl⟩ := hp2
          obtain rfl := Value.int.inj (Option.some.inj hv)
          exact ⟨sI (ans_eq (ps := s.ps) (N := s.n) (q := nq) (m := 1) h0 hn0 iG.2.2.2.2 (by decide) (by omega) hR iG.1 q2 q3).1.symm, finA K s.h s.dh s.b s.tb s.p s.q s.pm s.qm d' s.w32 s.v32 s.y28 (oth s.ps s.n 1) s.dl R' q' s.ty s.tx s.ps s.gs s.ls s.st9 s.mt9 s.sd s.ts s.s0 s.s1 s.fp s.fd s.lt s.ct s.g2 s.g3 s.g4 s.g5 (nI nq) (nI 1) (s.b (21 + 1)) s.e0 s.e1 s.e2 s.m18 s.m21 s.m22 s.m23 s.m26 (seF s.h (o12 s.ps s.n 1) 1 (s.b (21 + 1)) nq 12 0 0 s.b 9223372036854775807) s.t s.ra s.n s.c s.m17 s.m19 s.m20 s.k0 s.k1 s.b (Eq25.rf _) rfl I1⟩
        · skip
          refine lw_15 F hJ hS had hj hL ha1 ha2 (c_ans1 (kpI s.k0 s.k1) s.h s.b (gi [s.g2, s.g3, s.g4, s.g5]) s.sd s.ps i5 s.n i6 s.rb s.rs s.ot s.a2 s.a3 s.a4 s.ab nq q1 q2 1 (by decide) hM) (c_mans1_1 (zf s) s.h s.b s.nb s.ps i5 s.n nq q4 rfl hn4 hst ((im_in hn0 h0 1).symm.trans hM)) (by omega) (by omega) rfl rfl [0, 40, 41, 42, 10, 11, 12, 100, 101, 102, 103, 104, 30, 31, 200, 201, 202, 203, 204, 210, 211, 212, 213, 214, 220, 221, 222, 223, 224, 230, 231, 232, 233, 234, 240, 241, 242, 243, 244, 250, 251, 252, 253, 254, 260, 261, 262, 263, 264, 270, 271, 272, 273, 274, 280, 281, 282, 283, 284, 290, 291, 292, 293, 294, 300, 301, 302, 303, 304, 310, 311, 312, 313, 314, 320, 321, 322, 323, 324] [500, 502, 505, 506, 510] rfl rfl (by decide +kernel) (by decide +kernel) (by decide +kernel) rfl rfl (fun r u h => by obtain ⟨R', q', h1, h2⟩ := h; exact ⟨_, h1⟩) (fun v u1 r2 u2 hu1 hu2 hp1 hp2 => ?_)
          obtain ⟨R', q', hv, rfl⟩ := hp1
          obtain ⟨d', rfl, rfl⟩ := hp2
          obtain rfl := Value.int.inj (Option.some.inj hv)
          exact ⟨sI (ans_eq (ps := s.ps) (N := s.n) (q := nq) (m := 1) h0 hn0 iG.2.2.2.2 (by decide) (by omega) hR iG.1 q2 q3).2.symm, finA K s.h s.dh s.b s.tb s.p s.q s.pm s.qm d' s.w32 s.v32 s.y28 (oth s.ps s.n 1) s.dl R' q' s.ty s.tx s.ps s.gs s.ls s.st9 s.mt9 s.sd s.ts s.s0 s.s1 s.fp s.fd s.lt s.ct s.g2 s.g3 s.g4 s.g5 (nI nq) (nI 1) (s.b (21 + 1)) s.e0 s.e1 s.e2 s.m18 s.m21 s.m22 s.m23 s.m26 (seF s.h (o12 s.ps s.n 1) 1 (s.b (21 + 1)) nq 12 0 0 s.b 9223372036854775807) s.t s.ra s.n s.c s.m17 s.m19 s.m20 s.k0 s.k1 s.b (Eq25.rf _) rfl I1⟩
      · rcases in_2 hW with rfl | rfl
        · skip
          refine lw_15 F hJ hS had hj hL ha1 ha2 (c_ans0 (kpI s.k0 s.k1) s.h s.b (gi [s.g2, s.g3, s.g4, s.g5]) s.sd s.ps i5 s.n i6 s.rb s.rs s.ot s.a2 s.a3 s.a4 s.ab nq q1 q2 2 (by decide) hM) (c_mans2_0 (zf s) s.h s.b s.nb s.ps i5 s.n nq q4 rfl hn4 hst ((im_in hn0 h0 2).symm.trans hM)) (by omega) (by omega) rfl rfl [0, 40, 41, 42, 10, 11, 12, 100, 101, 102, 103, 104, 30, 31, 200, 201, 202, 203, 204, 210, 211, 212, 213, 214, 220, 221, 222, 223, 224, 230, 231, 232, 233, 234, 240, 241, 242, 243, 244, 250, 251, 252, 253, 254, 260, 261, 262, 263, 264, 270, 271, 272, 273, 274, 280, 281, 282, 283, 284, 290, 291, 292, 293, 294, 300, 301, 302, 303, 304, 310, 311, 312, 313, 314, 320, 321, 322, 323, 324] [500, 502, 505, 506, 510] rfl rfl (by decide +kernel) (by decide +kernel) (by decide +kernel) rfl rfl (fun r u h => by obtain ⟨R', q', h1, h2⟩ := h; exact ⟨_, h1⟩) (fun v u1 r2 u2 hu1 hu2 hp1 hp2 => ?_)
          obtain ⟨R', q', hv, rfl⟩ := hp1
          obtain ⟨d', rfl, rfl⟩ := hp2
          obtain rfl := Value.int.inj (Option.some.inj hv)
          exact ⟨sI (ans_eq (ps := s.ps) (N := s.n) (q := nq) (m := 2) h0 hn0 iG.2.2.2.2 (by decide) (by omega) hR iG.1 q2 q3).1.symm, finA K s.h s.dh s.b s.tb s.p s.q s.pm s.qm d' s.w32 s.v32 s.y28 (oth s.ps s.n 2) s.dl R' q' s.ty s.tx s.ps s.gs s.ls s.st9 s.mt9 s.sd s.ts s.s0 s.s1 s.fp s.fd s.lt s.ct s.g2 s.g3 s.g4 s.g5 (nI nq) (nI 2) (s.b (21 + 2)) s.e0 s.e1 s.e2 s.m18 s.m21 s.m22 s.m23 s.m26 (seF s.h (o12 s.ps s.n 2) 2 (s.b (21 + 2)) nq 12 0 0 s.b 9223372036854775807) s.t s.ra s.n s.c s.m17 s.m19 s.m20 s.k0 s.k1 s.b (Eq25.rf _) rfl I1⟩
        · skip
          refine lw_15 F hJ hS had hj hL ha1 ha2 (c_ans1 (kpI s.k0 s.k1) s.h s.b (gi [s.g2, s.g3, s.g4, s.g5]) s.sd s.ps i5 s.n i6 s.rb s.rs s.ot s.a2 s.a3 s.a4 s.ab nq q1 q2 2 (by decide) hM) (c_mans2_1 (zf s) s.h s.b s.nb s.ps i5 s.n nq q4 rfl hn4 hst ((im_in hn0 h0 2).symm.trans hM)) (by omega) (by omega) rfl rfl [0, 40, 41, 42, 10, 11, 12, 100, 101, 102, 103, 104, 30, 31, 200, 201, 202, 203, 204, 210, 211, 212, 213, 214, 220, 221, 222, 223, 224, 230, 231, 232, 233, 234, 240, 241, 242, 243, 244, 250, 251, 252, 253, 254, 260, 261, 262, 263, 264, 270, 271, 272, 273, 274, 280, 281, 282, 283, 284, 290, 291, 292, 293, 294, 300, 301, 302, 303, 304, 310, 311, 312, 313, 314, 320, 321, 322, 323, 324] [500, 502, 505, 506, 510] rfl rfl (by decide +kernel) (by decide +kernel) (by decide +kernel) rfl rfl (fun r u h => by obtain ⟨R', q', h1, h2⟩ := h; exact ⟨_, h1⟩) (fun v u1 r2 u2 hu1 hu2 hp1 hp2 => ?_)
          obtain ⟨R', q', hv, rfl⟩ := hp1
          obtain ⟨d', rfl, rfl⟩ := hp2
          obtain rfl := Value.int.inj (Option.some.inj hv)
          exact ⟨sI (ans_eq (ps := s.ps) (N := s.n) (q := nq) (m := 2) h0 hn0 iG.2.2.2.2 (by decide) (by omega) hR iG.1 q2 q3).2.symm, finA K s.h s.dh s.b s.tb s.p s.q s.pm s.qm d' s.w32 s.v32 s.y28 (oth s.ps s.n 2) s.dl R' q' s.ty s.tx s.ps s.gs s.ls s.st9 s.mt9 s.sd s.ts s.s0 s.s1 s.fp s.fd s.lt s.ct s.g2 s.g3 s.g4 s.g5 (nI nq) (nI 2) (s.b (21 + 2)) s.e0 s.e1 s.e2 s.m18 s.m21 s.m22 s.m23 s.m26 (seF s.h (o12 s.ps s.n 2) 2 (s.b (21 + 2)) nq 12 0 0 s.b 9223372036854775807) s.t s.ra s.n s.c s.m17 s.m19 s.m20 s.k0 s.k1 s.b (Eq25.rf _) rfl I1⟩
      · rcases in_2 hW with rfl | rfl
        · skip
          refine lw_15 F hJ hS had hj hL ha1 ha2 (c_ans0 (kpI s.k0 s.k1) s.h s.b (gi [s.g2, s.g3, s.g4, s.g5]) s.sd s.ps i5 s.n i6 s.rb s.rs s.ot s.a2 s.a3 s.a4 s.ab nq q1 q2 3 (by decide) hM) (c_mans3_0 (zf s) s.h s.b s.nb s.ps i5 s.n nq q4 rfl hn4 hst ((im_in hn0 h0 3).symm.trans hM)) (by omega) (by omega) rfl rfl [0, 40, 41, 42, 10, 11, 12, 100, 101, 102, 103, 104, 30, 31, 200, 201, 202, 203, 204, 210, 211, 212, 213, 214, 220, 221, 222, 223, 224, 230, 231, 232, 233, 234, 240, 241, 242, 243, 244, 250, 251, 252, 253, 254, 260, 261, 262, 263, 264, 270, 271, 272, 273, 274, 280, 281, 282, 283, 284, 290, 291, 292, 293, 294, 300, 301, 302, 303, 304, 310, 311, 312, 313, 314, 320, 321, 322, 323, 324] [500, 502, 505, 506, 510] rfl rfl (by decide +kernel) (by decide +kernel) (by decide +kernel) rfl rfl (fun r u h => by obtain ⟨R', q', h1, h2⟩ := h; exact ⟨_, h1⟩) (fun v u1 r2 u2 hu1 hu2 hp1 hp2 => ?_)
          obtain ⟨R', q', hv, rfl⟩ := hp1
          obtain ⟨d', rfl, rfl⟩ := hp2
          obtain rfl := Value.int.inj (Option.some.inj hv)
          exact ⟨sI (ans_eq (ps := s.ps) (N := s.n) (q := nq) (m := 3) h0 hn0 iG.2.2.2.2 (by decide) (by omega) hR iG.1 q2 q3).1.symm, finA K s.h s.dh s.b s.tb s.p s.q s.pm s.qm d' s.w32 s.v32 s.y28 (oth s.ps s.n 3) s.dl R' q' s.ty s.tx s.ps s.gs s.ls s.st9 s.mt9 s.sd s.ts s.s0 s.s1 s.fp s.fd s.lt s.ct s.g2 s.g3 s.g4 s.g5 (nI nq) (nI 3) (s.b (21 + 3)) s.e0 s.e1 s.e2 s.m18 s.m21 s.m22 s.m23 s.m26 (seF s.h (o12 s.ps s.n 3) 3 (s.b (21 + 3)) nq 12 0 0 s.b 9223372036854775807) s.t s.ra s.n s.c s.m17 s.m19 s.m20 s.k0 s.k1 s.b (Eq25.rf _) rfl I1⟩
        · skip
          refine lw_15 F hJ hS had hj hL ha1 ha2 (c_ans1 (kpI s.k0 s.k1) s.h s.b (gi [s.g2, s.g3, s.g4, s.g5]) s.sd s.ps i5 s.n i6 s.rb s.rs s.ot s.a2 s.a3 s.a4 s.ab nq q1 q2 3 (by decide) hM) (c_mans3_1 (zf s) s.h s.b s.nb s.ps i5 s.n nq q4 rfl hn4 hst ((im_in hn0 h0 3).symm.trans hM)) (by omega) (by omega) rfl rfl [0, 40, 41, 42, 10, 11, 12, 100, 101, 102, 103, 104, 30, 31, 200, 201, 202, 203, 204, 210, 211, 212, 213, 214, 220, 221, 222, 223, 224, 230, 231, 232, 233, 234, 240, 241, 242, 243, 244, 250, 251, 252, 253, 254, 260, 261, 262, 263, 264, 270, 271, 272, 273, 274, 280, 281, 282, 283, 284, 290, 291, 292, 293, 294, 300, 301, 302, 303, 304, 310, 311, 312, 313, 314, 320, 321, 322, 323, 324] [500, 502, 505, 506, 510] rfl rfl (by decide +kernel) (by decide +kernel) (by decide +kernel) rfl rfl (fun r u h => by obtain ⟨R', q', h1, h2⟩ := h; exact ⟨_, h1⟩) (fun v u1 r2 u2 hu1 hu2 hp1 hp2 => ?_)
          obtain ⟨R', q', hv, rfl⟩ := hp1
          obtain ⟨d', rfl, rfl⟩ := hp2
          obtain rfl := Value.int.inj (Option.some.inj hv)
          exact ⟨sI (ans_eq (ps := s.ps) (N := s.n) (q := nq) (m := 3) h0 hn0 iG.2.2.2.2 (by decide) (by omega) hR iG.1 q2 q3).2.symm, finA K s.h s.dh s.b s.tb s.p s.q s.pm s.qm d' s.w32 s.v32 s.y28 (oth s.ps s.n 3) s.dl R' q' s.ty s.tx s.ps s.gs s.ls s.st9 s.mt9 s.sd s.ts s.s0 s.s1 s.fp s.fd s.lt s.ct s.g2 s.g3 s.g4 s.g5 (nI nq) (nI 3) (s.b (21 + 3)) s.e0 s.e1 s.e2 s.m18 s.m21 s.m22 s.m23 s.m26 (seF s.h (o12 s.ps s.n 3) 3 (s.b (21 + 3)) nq 12 0 0 s.b 9223372036854775807) s.t s.ra s.n s.c s.m17 s.m19 s.m20 s.k0 s.k1 s.b (Eq25.rf _) rfl I1⟩
