/-- the house as the model's search has it: n seats, BREATH B, REST R -/
def Hg (h : Nat → Int32) (n : Nat) (B R : Nat → Nat) : Prop := n ≤ 4 ∧ h 0 = nI n ∧ ∀ m, m < 4 → h (2 + m) = nI (B m) ∧ B m ≤ 4 ∧ h (6 + m) = nI (R m) ∧ R m ≤ 3 ∧ (m < n → 1 ≤ R m ∧ 1 ≤ B m)
theorem bits4 : ∀ n, n < 5 → ∀ j, j < 2 ^ n → ∀ m, m < 4 → hB (nI j) (nI m) = true → m < n := by decide +kernel
theorem isS_ex {h : Nat → Int32} {q : Int32} {n : Nat} (hn : n ≤ 4) (h0 : h 0 = nI n) (hS : inB q 0 (((1 : Int32) <<< ((h 0) &&& 31)) - 1) = true) : ∃ j, j < 2 ^ n ∧ q = nI j := by
  rw [h0, shl12 n (by omega), show (1 : Int32) = nI 1 from rfl, nI_sub (Nat.one_le_two_pow)] at hS
  obtain ⟨h1, h2⟩ := Bool.and_eq_true_iff.mp hS
  have g1 : ¬ q < 0 := by simpa using h1
  have g2 : ¬ nI (2 ^ n - 1) < q := by simpa using h2
  have hp : 2 ^ n ≤ 16 := Nat.le_trans (Nat.pow_le_pow_right (by decide) hn) (by decide)
  have hp1 : 1 ≤ 2 ^ n := Nat.one_le_two_pow
  have e1 : 0 ≤ q.toInt := by
    have := Int32.not_lt.mp g1
    simpa [Int32.le_iff_toInt_le] using this
  have e2 : q.toInt ≤ ((2 ^ n - 1 : Nat) : Int) := by
    have := Int32.le_iff_toInt_le.mp (Int32.not_lt.mp g2)
    rw [nI_toInt (by omega)] at this
    exact this
  refine ⟨q.toInt.toNat, by omega, ?_⟩
  apply Int32.toInt_inj.mp
  rw [nI_toInt (by omega)]
  omega
theorem Hg_Hs {h : Nat → Int32} {n : Nat} {B R : Nat → Nat} (H : Hg h n B R) {q : Int32} (hS : inB q 0 (((1 : Int32) <<< ((h 0) &&& 31)) - 1) = true) : Hs h q B R (fun m => hB q (nI m)) ∧ Hn B R (fun m => hB q (nI m)) n := by
  obtain ⟨h1, h2, h3⟩ := H
  obtain ⟨j, hj, rfl⟩ := isS_ex h1 h2 hS
  have hb : ∀ m, m < 4 → hB (nI j) (nI m) = true → m < n := bits4 n (by omega) j hj
  refine ⟨fun m hm => ?_, fun m hm => ?_⟩
  · obtain ⟨a, b, c, d, e⟩ := h3 m hm
    exact ⟨a, b, c, d, rfl, fun z => (e (hb m hm z)).1⟩
  · obtain ⟨a, b, c, d, e⟩ := h3 m hm
    exact ⟨b, d, fun z => ⟨(e (hb m hm z)).1, (e (hb m hm z)).2, hb m hm z⟩⟩
theorem wt_le (c : Nat) (h : c ≤ 3) : wt c ≤ 6 := by
  match c, h with
  | 0, _ => decide
  | 1, _ => decide
  | 2, _ => decide
  | 3, _ => decide
theorem shN_le {B R : Nat → Nat} {bs : Nat → Bool} {n : Nat} (G : Hn B R bs n) : shN R bs ≤ 24 := by
  have K : ∀ m, m < 4 → (bif bs m then wt (R m) else 0) ≤ 6 := fun m hm => by
    have := wt_le (R m) (G m hm).2.1
    cases bs m
    · exact Nat.zero_le 6
    · exact this
  have a := K 0 (by decide)
  have b := K 1 (by decide)
  have c := K 2 (by decide)
  have d := K 3 (by decide)
  unfold shN
  omega
def mvG (h : Nat → Int32) (j best : Int32) : Int32 := if best = -1 then (if 12 ≤ shS h j 4 then j else best) else if onI best ≤ onI j then best else (if 12 ≤ shS h j 4 then j else best)
def mvF (h : Nat → Int32) : Nat → Nat → Int32 → Int32
  | 0, _, best => best
  | k + 1, j, best => bif inB (nI j) 0 (((1 : Int32) <<< ((h 0) &&& 31)) - 1) then mvF h k (j + 1) (mvG h (nI j) best) else best
theorem mvF_s {h : Nat → Int32} {k j : Nat} {best : Int32} (e : inB (nI j) 0 (((1 : Int32) <<< ((h 0) &&& 31)) - 1) = true) : mvF h (k + 1) j best = mvF h k (j + 1) (mvG h (nI j) best) := by show (bif inB (nI j) 0 (((1 : Int32) <<< ((h 0) &&& 31)) - 1) then _ else best) = _; rw [e]; rfl
theorem mvF_f {h : Nat → Int32} {k j : Nat} {best : Int32} (e : inB (nI j) 0 (((1 : Int32) <<< ((h 0) &&& 31)) - 1) = false) : mvF h (k + 1) j best = best := by show (bif inB (nI j) 0 (((1 : Int32) <<< ((h 0) &&& 31)) - 1) then _ else best) = _; rw [e]; rfl
theorem isS_16 {h : Nat → Int32} {n : Nat} (hn : n ≤ 4) (h0 : h 0 = nI n) : inB (nI 16) 0 (((1 : Int32) <<< ((h 0) &&& 31)) - 1) = false := by
  cases e : inB (nI 16) 0 (((1 : Int32) <<< ((h 0) &&& 31)) - 1) with
  | false => rfl
  | true =>
    obtain ⟨j, hj, ej⟩ := isS_ex hn h0 e
    have hp : 2 ^ n ≤ 16 := Nat.le_trans (Nat.pow_le_pow_right (by decide) hn) (by decide)
    have := nI_ij (by decide) (by omega) ej
    omega
theorem c_isFS (z h : Nat → Int32) (n : Nat) (B R : Nat → Nat) (HH : Hg h n B R) (K0 : Int32) (s9 m9 : List Int32) (hs9 : s9.length = 50625) (hm9 : m9.length = 50625) (q : Int32) (hS : inB q 0 (((1 : Int32) <<< ((h 0) &&& 31)) - 1) = true) : Ctr mk_X7_isForEver 4 [.ref 500, .int q] [(500, mM z K0), (502, a14 h), (513, .inr (.inl (0, s9))), (514, .inr (.inl (1, m9)))] (fun r u => ∃ (K' : Int32) (ss' mt' : List Int32), ss'.length = 50625 ∧ mt'.length = 50625 ∧ r = some (.int (b2i (decide (12 ≤ shS h q 4)))) ∧ u = [(500, mM z K'), (502, a14 h), (513, .inr (.inl (0, ss'))), (514, .inr (.inl (1, mt')))]) := by
  obtain ⟨H, G⟩ := Hg_Hs HH hS
  refine Ctr.imp (c_isFE z h q B R (fun m => hB q (nI m)) H n HH.1 HH.2.1 K0 s9 m9 hs9 hm9) ?_
  rintro r u ⟨bb, K', ss', mt', g1, g2, g3, g4, g5⟩
  refine ⟨K', ss', mt', g2, g3, ?_, g5⟩
  have e : bb = decide (12 ≤ shS h q 4) := by
    have e1 := g1.trans (Lv_iff H G HH.1)
    have e2 : (12 : Int32) ≤ shS h q 4 ↔ 12 ≤ shN R (fun m => hB q (nI m)) := by
      rw [shS_N H G]
      exact nI_lei (a := 12) (by decide) (by have := shN_le G; omega)
    cases bb with
    | true => exact (decide_eq_true (e2.mpr (e1.mp rfl))).symm
    | false => exact (decide_eq_false (fun z => absurd (e1.mpr (e2.mp z)) (by decide))).symm
  rw [g4, e]
set_option maxHeartbeats 4000000 in
set_option maxRecDepth 100000 in
theorem c_meverU (z h : Nat → Int32) (n : Nat) (B R : Nat → Nat) (HH : Hg h n B R) (K0 : Int32) (s9 m9 : List Int32) (hs9 : s9.length = 50625) (hm9 : m9.length = 50625) (q : Int32) (hS : inB q 0 (((1 : Int32) <<< ((h 0) &&& 31)) - 1) = false) : Ctr mk_X7_ever 5 [.ref 500, .int q] [(500, mM z K0), (502, a14 h), (513, .inr (.inl (0, s9))), (514, .inr (.inl (1, m9)))] (fun r u => r = some (.int (-1000000001)) ∧ u = [(500, mM z K0), (502, a14 h), (513, .inr (.inl (0, s9))), (514, .inr (.inl (1, m9)))]) := by
  refine Ctr.of rfl (Nat.le_of_ble_eq_true rfl) ?_
  intro x ad F hJ hR
  refine J.run (sn_X7_ever F) 2 [] (S' := (2, [(0, .ref 500), (1, .int q)], [.int q, .ref 500], [(500, mM z K0), (502, a14 h), (513, .inr (.inl (0, s9))), (514, .inr (.inl (1, m9)))])) (ob := []) rfl (ob_n) ?_
  refine J.callVK F hJ lk_X7_180 im_X7_isSet se_X7_isSet (by decide +kernel) (c_isS (gi [0, z 1, 0, 0, 0, 0, 0, 0, 0, 0, 0, z 11, 0, 0, z 14, z 15, z 16, z 17, z 18, z 19, z 20, z 21, z 22, z 23, 0, 0, K0]) h q) (fun k => k) (by decide) [] [500, 502] rfl rfl rfl rfl rfl rfl (by decide +kernel) rfl (by decide +kernel) (fun r ws' hk hp => ?_)
  obtain ⟨rfl, rfl⟩ := hp
  show J x 2 (ad, 0, 0) (5, [(0, .ref 500), (1, .int q)], [.int (b2i (inB q 0 (((1 : Int32) <<< ((h 0) &&& 31)) - 1)))], [(500, mM z K0), (502, a14 h), (513, .inr (.inl (0, s9))), (514, .inr (.inl (1, m9)))])
  rw [hS]
  refine J.run (sn_X7_ever F) 3 [0] (S' := (26, [(0, .ref 500), (1, .int q)], [.int (-1000000001)], [(500, mM z K0), (502, a14 h), (513, .inr (.inl (0, s9))), (514, .inr (.inl (1, m9)))])) (ob := [(0 : Int32) = 0]) rfl (ob_c (by decide) ob_n) ?_
  exact J.iret F hR (Nat.le_refl _) (Nat.le_refl _) rfl rfl (by decide +kernel) ⟨rfl, keq [500, 502, 513, 514] rfl rfl, rfl, rfl⟩
set_option maxHeartbeats 4000000 in
set_option maxRecDepth 100000 in
theorem c_meverT (z h : Nat → Int32) (n : Nat) (B R : Nat → Nat) (HH : Hg h n B R) (K0 : Int32) (s9 m9 : List Int32) (hs9 : s9.length = 50625) (hm9 : m9.length = 50625) (q : Int32) (hS : inB q 0 (((1 : Int32) <<< ((h 0) &&& 31)) - 1) = true) : Ctr mk_X7_ever 5 [.ref 500, .int q] [(500, mM z K0), (502, a14 h), (513, .inr (.inl (0, s9))), (514, .inr (.inl (1, m9)))] (fun r u => ∃ (K' : Int32) (ss' mt' : List Int32), ss'.length = 50625 ∧ mt'.length = 50625 ∧ r = some (.int (b2i (decide (12 ≤ shS h q 4)))) ∧ u = [(500, mM z K'), (502, a14 h), (513, .inr (.inl (0, ss'))), (514, .inr (.inl (1, mt')))]) := by
  refine Ctr.of rfl (Nat.le_of_ble_eq_true rfl) ?_
  intro x ad F hJ hR
  refine J.run (sn_X7_ever F) 2 [] (S' := (2, [(0, .ref 500), (1, .int q)], [.int q, .ref 500], [(500, mM z K0), (502, a14 h), (513, .inr (.inl (0, s9))), (514, .inr (.inl (1, m9)))])) (ob := []) rfl (ob_n) ?_
  refine J.callVK F hJ lk_X7_180 im_X7_isSet se_X7_isSet (by decide +kernel) (c_isS (gi [0, z 1, 0, 0, 0, 0, 0, 0, 0, 0, 0, z 11, 0, 0, z 14, z 15, z 16, z 17, z 18, z 19, z 20, z 21, z 22, z 23, 0, 0, K0]) h q) (fun k => k) (by decide) [] [500, 502] rfl rfl rfl rfl rfl rfl (by decide +kernel) rfl (by decide +kernel) (fun r ws' hk hp => ?_)
  obtain ⟨rfl, rfl⟩ := hp
  show J x 2 (ad, 0, 0) (5, [(0, .ref 500), (1, .int q)], [.int (b2i (inB q 0 (((1 : Int32) <<< ((h 0) &&& 31)) - 1)))], [(500, mM z K0), (502, a14 h), (513, .inr (.inl (0, s9))), (514, .inr (.inl (1, m9)))])
  rw [hS]
  refine J.run (sn_X7_ever F) 3 [1] (S' := (15, [(0, .ref 500), (1, .int q)], [.int q, .ref 500], [(500, mM z K0), (502, a14 h), (513, .inr (.inl (0, s9))), (514, .inr (.inl (1, m9)))])) (ob := [¬ (1 : Int32) = 0]) rfl (ob_c (by decide) ob_n) ?_
  refine J.callVK F hJ lk_X7_220 im_X7_isForEver se_X7_isForEver (by decide +kernel) (c_isFS z h n B R HH K0 s9 m9 hs9 hm9 q hS) (fun k => k) (by decide) [] [500, 502, 513, 514] rfl rfl rfl rfl rfl rfl (by decide +kernel) rfl (by decide +kernel) (fun r ws' hk hp => ?_)
  obtain ⟨K1, s1_, m1_, hs1, hm1, rfl, rfl⟩ := hp
  show J x 2 (ad, 0, 0) (18, [(0, .ref 500), (1, .int q)], [.int (b2i (decide (12 ≤ shS h q 4)))], [(500, mM z K1), (502, a14 h), (513, .inr (.inl (0, s1_))), (514, .inr (.inl (1, m1_)))])
  cases hb2 : decide (12 ≤ shS h q 4)
  · skip
    refine J.run (sn_X7_ever F) 2 [1] (S' := (26, [(0, .ref 500), (1, .int q)], [.int 0], [(500, mM z K1), (502, a14 h), (513, .inr (.inl (0, s1_))), (514, .inr (.inl (1, m1_)))])) (ob := [(0 : Int32) = 0]) rfl (ob_c (by decide) ob_n) ?_
    exact J.iret F hR (Nat.le_refl _) (Nat.le_refl _) rfl rfl (by decide +kernel) ⟨rfl, keq [500, 502, 513, 514] rfl rfl, K1, s1_, m1_, hs1, hm1, by rw [hb2]; rfl, rfl⟩
  · skip
    refine J.run (sn_X7_ever F) 3 [0] (S' := (26, [(0, .ref 500), (1, .int q)], [.int 1], [(500, mM z K1), (502, a14 h), (513, .inr (.inl (0, s1_))), (514, .inr (.inl (1, m1_)))])) (ob := [¬ (1 : Int32) = 0]) rfl (ob_c (by decide) ob_n) ?_
    exact J.iret F hR (Nat.le_refl _) (Nat.le_refl _) rfl rfl (by decide +kernel) ⟨rfl, keq [500, 502, 513, 514] rfl rfl, K1, s1_, m1_, hs1, hm1, by rw [hb2]; rfl, rfl⟩
set_option maxHeartbeats 4000000 in
set_option maxRecDepth 100000 in
theorem c_mvoices (z h : Nat → Int32) (n : Nat) (B R : Nat → Nat) (HH : Hg h n B R) (K0 : Int32) (s9 m9 : List Int32) (hs9 : s9.length = 50625) (hm9 : m9.length = 50625) : Ctr mk_X7_voices 5 [.ref 500] [(500, mM z K0), (502, a14 h), (513, .inr (.inl (0, s9))), (514, .inr (.inl (1, m9)))] (fun r u => ∃ (K' : Int32) (ss' mt' : List Int32), ss'.length = 50625 ∧ mt'.length = 50625 ∧ r = some (.int (mvF h 15 1 (-1))) ∧ u = [(500, mM z K'), (502, a14 h), (513, .inr (.inl (0, ss'))), (514, .inr (.inl (1, mt')))]) := by
  refine Ctr.of rfl (Nat.le_of_ble_eq_true rfl) ?_
  intro x ad F hJ hR
  have H : ∀ (k j : Nat) (bs K1 : Int32) (s1 m1 : List Int32) (hs1 : s1.length = 50625) (hm1 : m1.length = 50625), j + k = 16 → mvF h k j bs = mvF h 15 1 (-1) → J x 4 (ad, 0, 0) (4, [(0, .ref 500), (1, .int bs), (2, .int (nI j))], [], [(500, mM z K1), (502, a14 h), (513, .inr (.inl (0, s1))), (514, .inr (.inl (1, m1)))]) := by
    intro k
    induction k with
    | zero =>
      intro j bs K1 s1 m1 hs1 hm1 hj hQ
      have ej : j = 16 := by omega
      subst ej
      have hS := isS_16 HH.1 HH.2.1
      refine J.run (sn_X7_voices F) 2 [] (S' := (6, [(0, .ref 500), (1, .int bs), (2, .int (nI 16))], [.int (nI 16), .ref 500], [(500, mM z K1), (502, a14 h), (513, .inr (.inl (0, s1))), (514, .inr (.inl (1, m1)))])) (ob := []) rfl (ob_n) ?_
      refine J.callVK F hJ lk_X7_180 im_X7_isSet se_X7_isSet (by decide +kernel) (c_isS (gi [0, z 1, 0, 0, 0, 0, 0, 0, 0, 0, 0, z 11, 0, 0, z 14, z 15, z 16, z 17, z 18, z 19, z 20, z 21, z 22, z 23, 0, 0, K1]) h (nI 16)) (fun k => k) (by decide) [] [500, 502] rfl rfl rfl rfl rfl rfl (by decide +kernel) rfl (by decide +kernel) (fun r ws' hk hp => ?_)
      obtain ⟨rfl, rfl⟩ := hp
      show J x 4 (ad, 0, 0) (9, [(0, .ref 500), (1, .int bs), (2, .int (nI 16))], [.int (b2i (inB (nI 16) 0 (((1 : Int32) <<< ((h 0) &&& 31)) - 1)))], [(500, mM z K1), (502, a14 h), (513, .inr (.inl (0, s1))), (514, .inr (.inl (1, m1)))])
      rw [hS]
      refine J.run (sn_X7_voices F) 2 [1] (S' := (59, [(0, .ref 500), (1, .int bs), (2, .int (nI 16))], [.int bs], [(500, mM z K1), (502, a14 h), (513, .inr (.inl (0, s1))), (514, .inr (.inl (1, m1)))])) (ob := [(0 : Int32) = 0]) rfl (ob_c (by decide) ob_n) ?_
      exact J.iret F hR (Nat.le_refl _) (Nat.le_refl _) rfl rfl (by decide +kernel) ⟨rfl, keq [500, 502, 513, 514] rfl rfl, K1, s1, m1, hs1, hm1, by rw [← hQ]; rfl, rfl⟩
    | succ k ih =>
      intro j bs K1 s1 m1 hs1 hm1 hj hQ
      cases hS : inB (nI j) 0 (((1 : Int32) <<< ((h 0) &&& 31)) - 1)
      · skip
        refine J.run (sn_X7_voices F) 2 [] (S' := (6, [(0, .ref 500), (1, .int bs), (2, .int (nI j))], [.int (nI j), .ref 500], [(500, mM z K1), (502, a14 h), (513, .inr (.inl (0, s1))), (514, .inr (.inl (1, m1)))])) (ob := []) rfl (ob_n) ?_
        refine J.callVK F hJ lk_X7_180 im_X7_isSet se_X7_isSet (by decide +kernel) (c_isS (gi [0, z 1, 0, 0, 0, 0, 0, 0, 0, 0, 0, z 11, 0, 0, z 14, z 15, z 16, z 17, z 18, z 19, z 20, z 21, z 22, z 23, 0, 0, K1]) h (nI j)) (fun k => k) (by decide) [] [500, 502] rfl rfl rfl rfl rfl rfl (by decide +kernel) rfl (by decide +kernel) (fun r ws' hk hp => ?_)
        obtain ⟨rfl, rfl⟩ := hp
        show J x 4 (ad, 0, 0) (9, [(0, .ref 500), (1, .int bs), (2, .int (nI j))], [.int (b2i (inB (nI j) 0 (((1 : Int32) <<< ((h 0) &&& 31)) - 1)))], [(500, mM z K1), (502, a14 h), (513, .inr (.inl (0, s1))), (514, .inr (.inl (1, m1)))])
        rw [hS]
        refine J.run (sn_X7_voices F) 2 [1] (S' := (59, [(0, .ref 500), (1, .int bs), (2, .int (nI j))], [.int bs], [(500, mM z K1), (502, a14 h), (513, .inr (.inl (0, s1))), (514, .inr (.inl (1, m1)))])) (ob := [(0 : Int32) = 0]) rfl (ob_c (by decide) ob_n) ?_
        exact J.iret F hR (Nat.le_refl _) (Nat.le_refl _) rfl rfl (by decide +kernel) ⟨rfl, keq [500, 502, 513, 514] rfl rfl, K1, s1, m1, hs1, hm1, by rw [← hQ, mvF_f hS], rfl⟩
      · skip
        refine J.run (sn_X7_voices F) 2 [] (S' := (6, [(0, .ref 500), (1, .int bs), (2, .int (nI j))], [.int (nI j), .ref 500], [(500, mM z K1), (502, a14 h), (513, .inr (.inl (0, s1))), (514, .inr (.inl (1, m1)))])) (ob := []) rfl (ob_n) ?_
        refine J.callVK F hJ lk_X7_180 im_X7_isSet se_X7_isSet (by decide +kernel) (c_isS (gi [0, z 1, 0, 0, 0, 0, 0, 0, 0, 0, 0, z 11, 0, 0, z 14, z 15, z 16, z 17, z 18, z 19, z 20, z 21, z 22, z 23, 0, 0, K1]) h (nI j)) (fun k => k) (by decide) [] [500, 502] rfl rfl rfl rfl rfl rfl (by decide +kernel) rfl (by decide +kernel) (fun r ws' hk hp => ?_)
        obtain ⟨rfl, rfl⟩ := hp
        show J x 4 (ad, 0, 0) (9, [(0, .ref 500), (1, .int bs), (2, .int (nI j))], [.int (b2i (inB (nI j) 0 (((1 : Int32) <<< ((h 0) &&& 31)) - 1)))], [(500, mM z K1), (502, a14 h), (513, .inr (.inl (0, s1))), (514, .inr (.inl (1, m1)))])
        rw [hS]
        by_cases h1 : bs = (-1)
        · skip
          refine J.run (sn_X7_voices F) 10 [0, 1, 0] (S' := (39, [(0, .ref 500), (1, .int bs), (2, .int (nI j)), (3, .int 1)], [.ref 500], [(500, mM z K1), (502, a14 h), (513, .inr (.inl (0, s1))), (514, .inr (.inl (1, m1)))])) (ob := [¬ (1 : Int32) = 0, bs = (-1), ¬ (1 : Int32) = 0]) rfl (ob_c (by decide) (ob_c h1 (ob_c (by decide) ob_n))) ?_
          refine J.run (sn_X7_voices F) 1 [] (S' := (40, [(0, .ref 500), (1, .int bs), (2, .int (nI j)), (3, .int 1)], [.int (nI j), .ref 500], [(500, mM z K1), (502, a14 h), (513, .inr (.inl (0, s1))), (514, .inr (.inl (1, m1)))])) (ob := []) rfl (ob_n) ?_
          refine J.callVK F hJ lk_X7_220 im_X7_isForEver se_X7_isForEver (by decide +kernel) (c_isFS z h n B R HH K1 s1 m1 hs1 hm1 (nI j) hS) (fun k => k) (by decide) [] [500, 502, 513, 514] rfl rfl rfl rfl rfl rfl (by decide +kernel) rfl (by decide +kernel) (fun r ws' hk hp => ?_)
          obtain ⟨K2, s2_, m2_, hs2, hm2, rfl, rfl⟩ := hp
          show J x 4 (ad, 0, 0) (43, [(0, .ref 500), (1, .int bs), (2, .int (nI j)), (3, .int 1)], [.int (b2i (decide (12 ≤ shS h (nI j) 4)))], [(500, mM z K2), (502, a14 h), (513, .inr (.inl (0, s2_))), (514, .inr (.inl (1, m2_)))])
          cases hb3 : decide (12 ≤ shS h (nI j) 4)
          · skip
            refine J.run (sn_X7_voices F) 5 [1] (S' := (4, [(0, .ref 500), (1, .int bs), (2, .int ((nI j) + 1)), (3, .int 1)], [], [(500, mM z K2), (502, a14 h), (513, .inr (.inl (0, s2_))), (514, .inr (.inl (1, m2_)))])) (ob := [(0 : Int32) = 0]) rfl (ob_c (by decide) ob_n) ?_
            refine J.lv (lv' := [(0, .ref 500), (1, .int bs), (2, .int ((nI j) + 1))]) [0, 1, 2] rfl ?_
            have e9 : mvF h (k + 1) j bs = mvF h k (j + 1) bs := by rw [mvF_s hS]; simp only [mvG, eq_true h1, (of_decide_eq_false hb3), ↓reduceIte, ite_self, Bool.false_eq_true, cond_true, cond_false, Bool.true_and, Bool.false_and, Bool.and_true, Bool.and_false, Bool.true_or, Bool.false_or, Bool.or_true, Bool.or_false, Bool.not_true, Bool.not_false, decide_true, decide_false, b2i_t, b2i_f]
            exact J.cast (ih (j + 1) bs K2 s2_ m2_ hs2 hm2 (by omega) (e9 ▸ hQ)) (by simp only [nI_1])
          · skip
            refine J.run (sn_X7_voices F) 6 [0] (S' := (4, [(0, .ref 500), (1, .int (nI j)), (2, .int ((nI j) + 1)), (3, .int 1)], [], [(500, mM z K2), (502, a14 h), (513, .inr (.inl (0, s2_))), (514, .inr (.inl (1, m2_)))])) (ob := [¬ (1 : Int32) = 0]) rfl (ob_c (by decide) ob_n) ?_
            refine J.lv (lv' := [(0, .ref 500), (1, .int (nI j)), (2, .int ((nI j) + 1))]) [0, 1, 2] rfl ?_
            have e9 : mvF h (k + 1) j bs = mvF h k (j + 1) (nI j) := by rw [mvF_s hS]; simp only [mvG, eq_true h1, (of_decide_eq_true hb3), ↓reduceIte, ite_self, Bool.false_eq_true, cond_true, cond_false, Bool.true_and, Bool.false_and, Bool.and_true, Bool.and_false, Bool.true_or, Bool.false_or, Bool.or_true, Bool.or_false, Bool.not_true, Bool.not_false, decide_true, decide_false, b2i_t, b2i_f]
            exact J.cast (ih (j + 1) (nI j) K2 s2_ m2_ hs2 hm2 (by omega) (e9 ▸ hQ)) (by simp only [nI_1])
        · skip
          refine J.run (sn_X7_voices F) 5 [0, 0] (S' := (18, [(0, .ref 500), (1, .int bs), (2, .int (nI j))], [.int (nI j)], [(500, mM z K1), (502, a14 h), (513, .inr (.inl (0, s1))), (514, .inr (.inl (1, m1)))])) (ob := [¬ (1 : Int32) = 0, ¬ bs = (-1)]) rfl (ob_c (by decide) (ob_c h1 ob_n)) ?_
          refine J.callS F hJ lk_X7_223 st_X7_ones (by decide +kernel) (c_ones (nI j)) (fun k => k) (by decide) [] rfl rfl rfl (by decide +kernel) rfl (show List.Nodup [] by decide +kernel) (fun r ws' hk hp => ?_)
          obtain ⟨rfl, rfl⟩ := hp
          show J x 4 (ad, 0, 0) (21, [(0, .ref 500), (1, .int bs), (2, .int (nI j))], [.int (onI (nI j))], [(500, mM z K1), (502, a14 h), (513, .inr (.inl (0, s1))), (514, .inr (.inl (1, m1)))])
          refine J.run (sn_X7_voices F) 1 [] (S' := (22, [(0, .ref 500), (1, .int bs), (2, .int (nI j))], [.int bs, .int (onI (nI j))], [(500, mM z K1), (502, a14 h), (513, .inr (.inl (0, s1))), (514, .inr (.inl (1, m1)))])) (ob := []) rfl (ob_n) ?_
          refine J.callS F hJ lk_X7_223 st_X7_ones (by decide +kernel) (c_ones bs) (fun k => k) (by decide) [.int (onI (nI j))] rfl rfl rfl (by decide +kernel) rfl (show List.Nodup [] by decide +kernel) (fun r ws' hk hp => ?_)
          obtain ⟨rfl, rfl⟩ := hp
          show J x 4 (ad, 0, 0) (25, [(0, .ref 500), (1, .int bs), (2, .int (nI j))], [.int (onI bs), .int (onI (nI j))], [(500, mM z K1), (502, a14 h), (513, .inr (.inl (0, s1))), (514, .inr (.inl (1, m1)))])
          by_cases h4 : (onI bs) ≤ (onI (nI j))
          · skip
            refine J.run (sn_X7_voices F) 9 [1, 1] (S' := (4, [(0, .ref 500), (1, .int bs), (2, .int ((nI j) + 1)), (3, .int 0)], [], [(500, mM z K1), (502, a14 h), (513, .inr (.inl (0, s1))), (514, .inr (.inl (1, m1)))])) (ob := [(onI bs) ≤ (onI (nI j)), (0 : Int32) = 0]) rfl (ob_c h4 (ob_c (by decide) ob_n)) ?_
            refine J.lv (lv' := [(0, .ref 500), (1, .int bs), (2, .int ((nI j) + 1))]) [0, 1, 2] rfl ?_
            have e9 : mvF h (k + 1) j bs = mvF h k (j + 1) bs := by rw [mvF_s hS]; simp only [mvG, h1, h4, f_le h4, ↓reduceIte, ite_self, Bool.false_eq_true, cond_true, cond_false, Bool.true_and, Bool.false_and, Bool.and_true, Bool.and_false, Bool.true_or, Bool.false_or, Bool.or_true, Bool.or_false, Bool.not_true, Bool.not_false, decide_true, decide_false, b2i_t, b2i_f]
            exact J.cast (ih (j + 1) bs K1 s1 m1 hs1 hm1 (by omega) (e9 ▸ hQ)) (by simp only [nI_1])
          · skip
            refine J.run (sn_X7_voices F) 8 [0, 0] (S' := (40, [(0, .ref 500), (1, .int bs), (2, .int (nI j)), (3, .int 1)], [.int (nI j), .ref 500], [(500, mM z K1), (502, a14 h), (513, .inr (.inl (0, s1))), (514, .inr (.inl (1, m1)))])) (ob := [¬ (onI bs) ≤ (onI (nI j)), ¬ (1 : Int32) = 0]) rfl (ob_c h4 (ob_c (by decide) ob_n)) ?_
            refine J.callVK F hJ lk_X7_220 im_X7_isForEver se_X7_isForEver (by decide +kernel) (c_isFS z h n B R HH K1 s1 m1 hs1 hm1 (nI j) hS) (fun k => k) (by decide) [] [500, 502, 513, 514] rfl rfl rfl rfl rfl rfl (by decide +kernel) rfl (by decide +kernel) (fun r ws' hk hp => ?_)
            obtain ⟨K5, s5_, m5_, hs5, hm5, rfl, rfl⟩ := hp
            show J x 4 (ad, 0, 0) (43, [(0, .ref 500), (1, .int bs), (2, .int (nI j)), (3, .int 1)], [.int (b2i (decide (12 ≤ shS h (nI j) 4)))], [(500, mM z K5), (502, a14 h), (513, .inr (.inl (0, s5_))), (514, .inr (.inl (1, m5_)))])
            cases hb6 : decide (12 ≤ shS h (nI j) 4)
            · skip
              refine J.run (sn_X7_voices F) 5 [1] (S' := (4, [(0, .ref 500), (1, .int bs), (2, .int ((nI j) + 1)), (3, .int 1)], [], [(500, mM z K5), (502, a14 h), (513, .inr (.inl (0, s5_))), (514, .inr (.inl (1, m5_)))])) (ob := [(0 : Int32) = 0]) rfl (ob_c (by decide) ob_n) ?_
              refine J.lv (lv' := [(0, .ref 500), (1, .int bs), (2, .int ((nI j) + 1))]) [0, 1, 2] rfl ?_
              have e9 : mvF h (k + 1) j bs = mvF h k (j + 1) bs := by rw [mvF_s hS]; simp only [mvG, h1, h4, f_nle h4, (of_decide_eq_false hb6), ↓reduceIte, ite_self, Bool.false_eq_true, cond_true, cond_false, Bool.true_and, Bool.false_and, Bool.and_true, Bool.and_false, Bool.true_or, Bool.false_or, Bool.or_true, Bool.or_false, Bool.not_true, Bool.not_false, decide_true, decide_false, b2i_t, b2i_f]
              exact J.cast (ih (j + 1) bs K5 s5_ m5_ hs5 hm5 (by omega) (e9 ▸ hQ)) (by simp only [nI_1])
            · skip
              refine J.run (sn_X7_voices F) 6 [0] (S' := (4, [(0, .ref 500), (1, .int (nI j)), (2, .int ((nI j) + 1)), (3, .int 1)], [], [(500, mM z K5), (502, a14 h), (513, .inr (.inl (0, s5_))), (514, .inr (.inl (1, m5_)))])) (ob := [¬ (1 : Int32) = 0]) rfl (ob_c (by decide) ob_n) ?_
              refine J.lv (lv' := [(0, .ref 500), (1, .int (nI j)), (2, .int ((nI j) + 1))]) [0, 1, 2] rfl ?_
              have e9 : mvF h (k + 1) j bs = mvF h k (j + 1) (nI j) := by rw [mvF_s hS]; simp only [mvG, h1, h4, f_nle h4, (of_decide_eq_true hb6), ↓reduceIte, ite_self, Bool.false_eq_true, cond_true, cond_false, Bool.true_and, Bool.false_and, Bool.and_true, Bool.and_false, Bool.true_or, Bool.false_or, Bool.or_true, Bool.or_false, Bool.not_true, Bool.not_false, decide_true, decide_false, b2i_t, b2i_f]
              exact J.cast (ih (j + 1) (nI j) K5 s5_ m5_ hs5 hm5 (by omega) (e9 ▸ hQ)) (by simp only [nI_1])
  refine J.run (sn_X7_voices F) 4 [] (S' := (4, [(0, .ref 500), (1, .int (-1)), (2, .int 1)], [], [(500, mM z K0), (502, a14 h), (513, .inr (.inl (0, s9))), (514, .inr (.inl (1, m9)))])) (ob := []) rfl (ob_n) ?_
  exact H 15 1 (-1) K0 s9 m9 hs9 hm9 (by omega) rfl
