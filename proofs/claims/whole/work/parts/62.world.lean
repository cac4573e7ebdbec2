/-! both objects' cells as one world; what a script's walk keeps -/
structure LS where
  (h dh b tb p q nb w32 v32 y28 ot dl : Nat → Int32)
  (rb : Nat → Nat → Int32)
  (rs : Nat → Int32)
  (ty tx ps gs ls st9 mt9 : List Int32)
  (sd ts s0 s1 fp fd lt ct g2 g3 g4 g5 a2 a3 a4 e0 e1 e2 m18 m21 m22 m23 m26 : Int32)
  (ab : Int64)
  (t ra n c m17 m19 m20 : Nat)
  (k0 k1 : Bool)
def kpI (k0 k1 : Bool) : Int32 := match k0, k1 with
  | false, false => 0
  | true, false => 1
  | false, true => 2
  | true, true => 3
def kbI (k : Bool) : Int32 := match k with
  | false => 0
  | true => 1
def zf (s : LS) : Nat → Int32 := gi [0, nI s.t, 0, 0, 0, 0, 0, 0, 0, 0, 0, nI s.n, 0, 0, nI s.c, s.sd, s.fp, nI s.m17, s.m18, nI s.m19, nI s.m20, s.m21, s.m22, s.m23, 0, 0, s.m26]
def kO (kp : Int32) : Pe := .inl (6, [.ref 10, .ref 20, .ref 100, .ref 110, .ref 30, .ref 40, .ref 50, .ref 60, .int kp])
def LC (s : LS) : Pw := [(0, kO (kpI s.k0 s.k1)), (10, hO s.h), (11, s4 2 s.h), (12, s4 6 s.h), (13, s4 10 s.h),
  (20, rO s.t s.ra s.fp s.fd s.lt s.ct), (21, .inr (.inl (1, s.ty))), (25, hD s.dh), (26, s4 2 s.dh), (27, s4 6 s.dh), (28, s4 10 s.dh),
  (30, .inl (3, [.ref 31, .int (nI s.n), .int s.g2, .int s.g3, .int s.g4, .int s.g5])), (31, .inr (.inl (0, s.ps))),
  (40, .inl (0, [.ref 41, .ref 42, .int s.a2, .int s.a3, .int s.a4, .long s.ab])), (41, aR), (42, l12 s.ot),
  (50, .inl (2, [.ref 10, .ref 51, .ref 52, .int (nI s.c), .ref 53, .ref 54, .ref 55])), (51, .inr (.inl (0, s.gs))), (52, .inr (.inl (0, s.ls))), (53, l32 s.w32), (54, l32 s.v32), (55, l28 s.y28),
  (60, .inr (.inr (3, [some 120, some 130]))),
  (100, sO 100 s.b s.sd), (101, s4 9 s.b), (102, s4 13 s.b), (103, s4 17 s.b), (104, s4 21 s.b),
  (110, sO 110 s.tb s.ts), (111, s4 9 s.tb), (112, s4 13 s.tb), (113, s4 17 s.tb), (114, s4 21 s.tb),
  (120, sO 120 s.p s.s0), (121, s4 9 s.p), (122, s4 13 s.p), (123, s4 17 s.p), (124, s4 21 s.p),
  (130, sO 130 s.q s.s1), (131, s4 9 s.q), (132, s4 13 s.q), (133, s4 17 s.q), (134, s4 21 s.q),
  (500, mO (zf s)), (501, .inr (.inl (0, s.tx))), (502, a14 s.h), (503, a14 s.dl), (504, .inr (.inl (0, [s.e0, s.e1, s.e2]))), (505, a28 s.b), (506, a28 s.nb), (507, a56 s.p s.q), (508, .inr (.inl (0, [s.s0, s.s1]))), (509, .inr (.inl (2, [kbI s.k0, kbI s.k1]))), (510, .inr (.inl (0, s.ps))), (511, .inr (.inl (0, s.gs))), (512, .inr (.inl (0, s.ls))), (513, .inr (.inl (0, s.st9))), (514, .inr (.inl (1, s.mt9)))]
def ARW (R : Nat → Nat → Int32) (q : Nat → Int32) : Pw := [(200, sO 200 (R 0) (q 0)), (201, s4 9 (R 0)), (202, s4 13 (R 0)), (203, s4 17 (R 0)), (204, s4 21 (R 0)), (210, sO 210 (R 1) (q 1)), (211, s4 9 (R 1)), (212, s4 13 (R 1)), (213, s4 17 (R 1)), (214, s4 21 (R 1)), (220, sO 220 (R 2) (q 2)), (221, s4 9 (R 2)), (222, s4 13 (R 2)), (223, s4 17 (R 2)), (224, s4 21 (R 2)), (230, sO 230 (R 3) (q 3)), (231, s4 9 (R 3)), (232, s4 13 (R 3)), (233, s4 17 (R 3)), (234, s4 21 (R 3)), (240, sO 240 (R 4) (q 4)), (241, s4 9 (R 4)), (242, s4 13 (R 4)), (243, s4 17 (R 4)), (244, s4 21 (R 4)), (250, sO 250 (R 5) (q 5)), (251, s4 9 (R 5)), (252, s4 13 (R 5)), (253, s4 17 (R 5)), (254, s4 21 (R 5)), (260, sO 260 (R 6) (q 6)), (261, s4 9 (R 6)), (262, s4 13 (R 6)), (263, s4 17 (R 6)), (264, s4 21 (R 6)), (270, sO 270 (R 7) (q 7)), (271, s4 9 (R 7)), (272, s4 13 (R 7)), (273, s4 17 (R 7)), (274, s4 21 (R 7)), (280, sO 280 (R 8) (q 8)), (281, s4 9 (R 8)), (282, s4 13 (R 8)), (283, s4 17 (R 8)), (284, s4 21 (R 8)), (290, sO 290 (R 9) (q 9)), (291, s4 9 (R 9)), (292, s4 13 (R 9)), (293, s4 17 (R 9)), (294, s4 21 (R 9)), (300, sO 300 (R 10) (q 10)), (301, s4 9 (R 10)), (302, s4 13 (R 10)), (303, s4 17 (R 10)), (304, s4 21 (R 10)), (310, sO 310 (R 11) (q 11)), (311, s4 9 (R 11)), (312, s4 13 (R 11)), (313, s4 17 (R 11)), (314, s4 21 (R 11)), (320, sO 320 (R 12) (q 12)), (321, s4 9 (R 12)), (322, s4 13 (R 12)), (323, s4 17 (R 12)), (324, s4 21 (R 12))]
def WD (s : LS) : Pw := LC s ++ ARW s.rb s.rs
theorem ARW_keys (R : Nat → Nat → Int32) (q : Nat → Int32) : (ARW R q).map Prod.fst = (List.range 13).flatMap (fun j => [200 + 10 * j, 201 + 10 * j, 202 + 10 * j, 203 + 10 * j, 204 + 10 * j]) := rfl
theorem ARW_off {ks : List Nat} (hk : ks.all (fun k => Nat.blt k 200 || Nat.ble 400 k) = true) {R : Nat → Nat → Int32} {q : Nat → Int32} : ∀ z ∈ ARW R q, nin z.1 ks = true := by
  intro z hz
  have h1 : z.1 ∈ (ARW R q).map Prod.fst := List.mem_map.mpr ⟨z, hz, rfl⟩
  rw [ARW_keys] at h1
  obtain ⟨j, hj, h2⟩ := List.mem_flatMap.mp h1
  have hj := List.mem_range.mp hj
  have hb : 200 ≤ z.1 ∧ z.1 < 400 := by
    simp only [List.mem_cons, List.not_mem_nil, or_false] at h2
    omega
  refine List.all_eq_true.mpr fun k hk9 => ?_
  have h3 := List.all_eq_true.mp hk k hk9
  cases hc : Nat.beq z.1 k with
  | false => rfl
  | true =>
    have e := Nat.eq_of_beq_eq_true hc
    rcases Bool.or_eq_true_iff.mp h3 with h | h
    · have : k < 200 := Nat.le_of_ble_eq_true h
      omega
    · have : 400 ≤ k := Nat.le_of_ble_eq_true h
      omega
theorem putW_off {ks : List Nat} {u : Pw} : ∀ {B : Pw}, (∀ z ∈ B, nin z.1 ks = true) → putW ks u B = B := by
  intro B
  induction B with
  | nil => intro _; rfl
  | cons q B ih =>
    intro h
    show (q.1, (lookZ ks u q.1).getD q.2) :: putW ks u B = q :: B
    rw [ih (fun z hz => h z (List.mem_cons_of_mem _ hz)), lookZ_no (nin_of (h q List.mem_cons_self))]
    rfl
theorem putW_app {ks : List Nat} (hk : ks.all (fun k => Nat.blt k 200 || Nat.ble 400 k) = true) (u A : Pw) {R : Nat → Nat → Int32} {q : Nat → Int32} : putW ks u (A ++ ARW R q) = putW ks u A ++ ARW R q := by
  have e : putW ks u (A ++ ARW R q) = putW ks u A ++ putW ks u (ARW R q) := List.map_append
  rw [e, putW_off (ARW_off hk)]
theorem sO_25 {b c : Nat → Int32} (e : Eq25 b c) (p : Nat) (sd : Int32) : sO p b sd = sO p c sd := by
  unfold sO
  rw [e 3 (by decide), e 4 (by decide), e 5 (by decide), e 6 (by decide), e 0 (by decide), e 1 (by decide), e 2 (by decide), e 7 (by decide), e 8 (by decide)]
theorem s4_25 {b c : Nat → Int32} (e : Eq25 b c) (o : Nat) (ho : o + 3 < 25) : s4 o b = s4 o c := by
  unfold s4
  rw [e o (by omega), e (o + 1) (by omega), e (o + 2) (by omega), e (o + 3) (by omega)]
theorem Eq25.rf (b : Nat → Int32) : Eq25 b b := fun _ _ => rfl
theorem Eq25.sy {b c : Nat → Int32} (e : Eq25 b c) : Eq25 c b := fun k hk => (e k hk).symm
theorem Eq25.tr {a b c : Nat → Int32} (e : Eq25 a b) (f : Eq25 b c) : Eq25 a c := fun k hk => (e k hk).trans (f k hk)
theorem nI_onto (x : Int32) : ∃ a : Nat, x = nI a := ⟨x.toBitVec.toNat, by
  unfold nI Int32.ofNat
  rw [BitVec.ofNat_toNat, BitVec.setWidth_eq]⟩
theorem a14_gi {l : List Int32} (h : l.length = 14) : (.inr (.inl (0, l)) : Pe) = a14 (gi l) := by
  match l, h with
  | [_, _, _, _, _, _, _, _, _, _, _, _, _, _], _ => rfl
theorem l32_gi {l : List Int32} (h : l.length = 32) : (.inr (.inl (0, l)) : Pe) = l32 (gi l) := by
  match l, h with
  | [_, _, _, _, _, _, _, _, _, _, _, _, _, _, _, _, _, _, _, _, _, _, _, _, _, _, _, _, _, _, _, _], _ => rfl
theorem l28_gi {l : List Int32} (h : l.length = 28) : (.inr (.inl (0, l)) : Pe) = l28 (gi l) := by
  match l, h with
  | [_, _, _, _, _, _, _, _, _, _, _, _, _, _, _, _, _, _, _, _, _, _, _, _, _, _, _, _], _ => rfl
