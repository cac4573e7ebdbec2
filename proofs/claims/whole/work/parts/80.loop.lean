/-! the loop of the law -/
theorem and31 (x : Int32) : ∃ k, k < 32 ∧ x &&& 31 = nI k := by
  obtain ⟨k, hk⟩ := nI_onto (x &&& 31)
  have e1 : (x &&& 31).toBitVec.toNat < 32 := by
    rw [Int32.toBitVec_and, BitVec.toNat_and]
    exact Nat.and_lt_two_pow _ (n := 5) (by decide)
  refine ⟨(x &&& 31).toBitVec.toNat, e1, ?_⟩
  unfold nI Int32.ofNat
  rw [BitVec.ofNat_toNat, BitVec.setWidth_eq]
  rfl
theorem lp_in {j L : Nat} (hL : L ≤ 2048) (hj : 4 * j + 4 ≤ L) : ¬ (nI L) - 4 < nI (4 * j) := by
  have e : nI L - 4 = nI (L - 4) := nI_sub (b := 4) (by omega)
  rw [e]
  exact nI_nlt (by omega) (by omega)
theorem lp_out {j L : Nat} (hL : L ≤ 2048) (hb : 4 * j ≤ L + 3) (hj : ¬ 4 * j + 4 ≤ L) : (nI L) - 4 < nI (4 * j) := by
  by_cases h4 : 4 ≤ L
  · have e : nI L - 4 = nI (L - 4) := nI_sub (b := 4) h4
    rw [e]
    exact nI_lt (by omega) (by omega)
  · have h0 : ∀ l, l < 4 → (nI l - 4).toInt < 0 := by decide +kernel
    refine Int32.lt_iff_toInt_lt.mpr ?_
    have h1 := h0 L (by omega)
    rw [nI_toInt (n := 4 * j) (by omega)]
    omega
theorem nI_4 (j : Nat) : nI (4 * j) + 4 = nI (4 * (j + 1)) := by
  rw [show (4 : Int32) = nI 4 from rfl, nI_add, Nat.mul_succ]
set_option maxRecDepth 100000 in
set_option maxHeartbeats 8000000 in
theorem law_loop {x : Cx} {nm : String} {d : Nat} (F : Fx x cL_law 4 RL nm (some .boolean) d) (hd : 60 ≤ d) {ad : Nat → Nat} {cells slots : Nat} (hJ : jSx x ad) {b L : Nat} {xs : Nat → Int32} (hS : Sc x b L xs) (had : ad 900 = b) (hL : L ≤ 2048)
    (hend : ∀ (lv : List (Nat × Value)) (W : Pw), J x 4 (ad, cells, slots) (780, lv, [.int 1], W))
    (h15 : ∀ (j : Nat) (s : S9), 4 * j + 4 ≤ L → Nxt x (ad, cells, slots) j j → Iv j s → J x 4 (ad, cells, slots) (533, [(0, .ref 900), (1, .ref 0), (2, .ref 500), (3, .int (nI (4 * j)))], [], WD9 s))
    (h20 : ∀ (j : Nat) (s : S9), 4 * j + 4 ≤ L → Nxt x (ad, cells, slots) j j → Iv j s → J x 4 (ad, cells, slots) (668, [(0, .ref 900), (1, .ref 0), (2, .ref 500), (3, .int (nI (4 * j)))], [], WD9 s))
    (h21 : ∀ (j : Nat) (s : S9), 4 * j + 4 ≤ L → Nxt x (ad, cells, slots) j j → Iv j s → J x 4 (ad, cells, slots) (681, [(0, .ref 900), (1, .ref 0), (2, .ref 500), (3, .int (nI (4 * j)))], [], WD9 s)) : ∀ (n j : Nat) (s : S9), L - 4 * j ≤ n → 4 * j ≤ L + 3 → Iv j s → J x 4 (ad, cells, slots) (18, [(0, .ref 900), (1, .ref 0), (2, .ref 500), (3, .int (nI (4 * j)))], [], WD9 s) := by
  intro n
  induction n with
  | zero =>
    intro j s hn hb I
    refine J.run (sn_L_h F) 2 [] (S' := (20, [(0, .ref 900), (1, .ref 0), (2, .ref 500), (3, .int (nI (4 * j)))], [.ref 900, .int (nI (4 * j))], WD9 s)) (ob := []) rfl ob_n ?_
    refine J.slen F hS had (by decide +kernel) ?_
    refine J.run (sn_L_h F) 3 [1] (S' := (779, [(0, .ref 900), (1, .ref 0), (2, .ref 500), (3, .int (nI (4 * j)))], [], WD9 s)) (ob := [(nI L) - 4 < nI (4 * j)]) rfl (ob_c (lp_out hL hb (by omega)) ob_n) ?_
    refine J.run (sn_L_e F) 1 [] (S' := (780, [(0, .ref 900), (1, .ref 0), (2, .ref 500), (3, .int (nI (4 * j)))], [.int 1], WD9 s)) (ob := []) rfl ob_n ?_
    exact hend _ _
  | succ n ih =>
    intro j s hn hb I
    refine J.run (sn_L_h F) 2 [] (S' := (20, [(0, .ref 900), (1, .ref 0), (2, .ref 500), (3, .int (nI (4 * j)))], [.ref 900, .int (nI (4 * j))], WD9 s)) (ob := []) rfl ob_n ?_
    refine J.slen F hS had (by decide +kernel) ?_
    by_cases hj : 4 * j + 4 ≤ L
    · refine J.run (sn_L_h F) 3 [0] (S' := (26, [(0, .ref 900), (1, .ref 0), (2, .ref 500), (3, .int (nI (4 * j)))], [], WD9 s)) (ob := [¬ (nI L) - 4 < nI (4 * j)]) rfl (ob_c (lp_in hL hj) ob_n) ?_
      refine J.run (sn_L_h F) 2 [] (S' := (28, [(0, .ref 900), (1, .ref 0), (2, .ref 500), (3, .int (nI (4 * j)))], [.int (nI (4 * j)), .ref 900], WD9 s)) (ob := []) rfl ob_n ?_
      refine J.sld F hS had (by decide +kernel) (4 * j) (sc_0 hj hL) ?_
      refine J.run (sn_L_h F) 2 [] (S' := (32, [(0, .ref 900), (1, .ref 0), (2, .ref 500), (3, .int (nI (4 * j)))], [.int ((xs (4 * j)) &&& 31)], WD9 s)) (ob := []) rfl ob_n ?_
      have K : Nxt x (ad, cells, slots) j j := by
        intro s' I'
        refine J.run (sn_L_e F) 2 [] (S' := (18, [(0, .ref 900), (1, .ref 0), (2, .ref 500), (3, .int ((nI (4 * j)) + 4))], [], WD9 s')) (ob := []) rfl ob_n ?_
        exact J.cast (ih (j + 1) s' (by omega) (by omega) I') (by rw [nI_4])
      obtain ⟨k, hk, hv⟩ := and31 (xs (4 * j))
      rw [hv]
      match k, hk with
      | 0, _ => exact J.run (sn_L_h F) 1 [1] (S' := (148, [(0, .ref 900), (1, .ref 0), (2, .ref 500), (3, .int (nI (4 * j)))], [], WD9 s)) (ob := [(nI 0).toInt = 0 + 0 ∧ (0 : Int) + 0 ≤ 24]) rfl (ob_c (by decide) ob_n) (ca_0 F hd hJ hS had hj hL K I)
      | 1, _ => exact J.run (sn_L_h F) 1 [2] (S' := (211, [(0, .ref 900), (1, .ref 0), (2, .ref 500), (3, .int (nI (4 * j)))], [], WD9 s)) (ob := [(nI 1).toInt = 0 + 1 ∧ (0 : Int) + 1 ≤ 24]) rfl (ob_c (by decide) ob_n) (ca_1 F hd hJ hS had hj hL K I)
      | 2, _ => exact J.run (sn_L_h F) 1 [3] (S' := (224, [(0, .ref 900), (1, .ref 0), (2, .ref 500), (3, .int (nI (4 * j)))], [], WD9 s)) (ob := [(nI 2).toInt = 0 + 2 ∧ (0 : Int) + 2 ≤ 24]) rfl (ob_c (by decide) ob_n) (ca_2 F hd hJ hS had hj hL K I)
      | 3, _ => exact J.run (sn_L_h F) 1 [4] (S' := (237, [(0, .ref 900), (1, .ref 0), (2, .ref 500), (3, .int (nI (4 * j)))], [], WD9 s)) (ob := [(nI 3).toInt = 0 + 3 ∧ (0 : Int) + 3 ≤ 24]) rfl (ob_c (by decide) ob_n) (ca_3 F hd hJ hS had hj hL K I)
      | 4, _ => exact J.run (sn_L_h F) 1 [5] (S' := (260, [(0, .ref 900), (1, .ref 0), (2, .ref 500), (3, .int (nI (4 * j)))], [], WD9 s)) (ob := [(nI 4).toInt = 0 + 4 ∧ (0 : Int) + 4 ≤ 24]) rfl (ob_c (by decide) ob_n) (ca_4 F hd hJ hS had hj hL K I)
      | 5, _ => exact J.run (sn_L_h F) 1 [6] (S' := (293, [(0, .ref 900), (1, .ref 0), (2, .ref 500), (3, .int (nI (4 * j)))], [], WD9 s)) (ob := [(nI 5).toInt = 0 + 5 ∧ (0 : Int) + 5 ≤ 24]) rfl (ob_c (by decide) ob_n) (ca_5 F hd hJ hS had hj hL K I)
      | 6, _ => exact J.run (sn_L_h F) 1 [7] (S' := (316, [(0, .ref 900), (1, .ref 0), (2, .ref 500), (3, .int (nI (4 * j)))], [], WD9 s)) (ob := [(nI 6).toInt = 0 + 6 ∧ (0 : Int) + 6 ≤ 24]) rfl (ob_c (by decide) ob_n) (ca_6 F hd hJ hS had hj hL K I)
      | 7, _ => exact J.run (sn_L_h F) 1 [8] (S' := (349, [(0, .ref 900), (1, .ref 0), (2, .ref 500), (3, .int (nI (4 * j)))], [], WD9 s)) (ob := [(nI 7).toInt = 0 + 7 ∧ (0 : Int) + 7 ≤ 24]) rfl (ob_c (by decide) ob_n) (ca_7 F hd hJ hS had hj hL K I)
      | 8, _ => exact J.run (sn_L_h F) 1 [9] (S' := (392, [(0, .ref 900), (1, .ref 0), (2, .ref 500), (3, .int (nI (4 * j)))], [], WD9 s)) (ob := [(nI 8).toInt = 0 + 8 ∧ (0 : Int) + 8 ≤ 24]) rfl (ob_c (by decide) ob_n) (ca_8 F hd hJ hS had hj hL K I)
      | 9, _ => exact J.run (sn_L_h F) 1 [10] (S' := (415, [(0, .ref 900), (1, .ref 0), (2, .ref 500), (3, .int (nI (4 * j)))], [], WD9 s)) (ob := [(nI 9).toInt = 0 + 9 ∧ (0 : Int) + 9 ≤ 24]) rfl (ob_c (by decide) ob_n) (ca_9 F hd hJ hS had hj hL K I)
      | 10, _ => exact J.run (sn_L_h F) 1 [11] (S' := (438, [(0, .ref 900), (1, .ref 0), (2, .ref 500), (3, .int (nI (4 * j)))], [], WD9 s)) (ob := [(nI 10).toInt = 0 + 10 ∧ (0 : Int) + 10 ≤ 24]) rfl (ob_c (by decide) ob_n) (ca_10 F hd hJ hS had hj hL K I)
      | 11, _ => exact J.run (sn_L_h F) 1 [12] (S' := (451, [(0, .ref 900), (1, .ref 0), (2, .ref 500), (3, .int (nI (4 * j)))], [], WD9 s)) (ob := [(nI 11).toInt = 0 + 11 ∧ (0 : Int) + 11 ≤ 24]) rfl (ob_c (by decide) ob_n) (ca_11 F hd hJ hS had hj hL K I)
      | 12, _ => exact J.run (sn_L_h F) 1 [13] (S' := (484, [(0, .ref 900), (1, .ref 0), (2, .ref 500), (3, .int (nI (4 * j)))], [], WD9 s)) (ob := [(nI 12).toInt = 0 + 12 ∧ (0 : Int) + 12 ≤ 24]) rfl (ob_c (by decide) ob_n) (ca_12 F hd hJ hS had hj hL K I)
      | 13, _ => exact J.run (sn_L_h F) 1 [14] (S' := (497, [(0, .ref 900), (1, .ref 0), (2, .ref 500), (3, .int (nI (4 * j)))], [], WD9 s)) (ob := [(nI 13).toInt = 0 + 13 ∧ (0 : Int) + 13 ≤ 24]) rfl (ob_c (by decide) ob_n) (ca_13 F hd hJ hS had hj hL K I)
      | 14, _ => exact J.run (sn_L_h F) 1 [15] (S' := (520, [(0, .ref 900), (1, .ref 0), (2, .ref 500), (3, .int (nI (4 * j)))], [], WD9 s)) (ob := [(nI 14).toInt = 0 + 14 ∧ (0 : Int) + 14 ≤ 24]) rfl (ob_c (by decide) ob_n) (ca_14 F hd hJ hS had hj hL K I)
      | 15, _ => exact J.run (sn_L_h F) 1 [16] (S' := (533, [(0, .ref 900), (1, .ref 0), (2, .ref 500), (3, .int (nI (4 * j)))], [], WD9 s)) (ob := [(nI 15).toInt = 0 + 15 ∧ (0 : Int) + 15 ≤ 24]) rfl (ob_c (by decide) ob_n) (h15 j s hj K I)
      | 16, _ => exact J.run (sn_L_h F) 1 [17] (S' := (566, [(0, .ref 900), (1, .ref 0), (2, .ref 500), (3, .int (nI (4 * j)))], [], WD9 s)) (ob := [(nI 16).toInt = 0 + 16 ∧ (0 : Int) + 16 ≤ 24]) rfl (ob_c (by decide) ob_n) (ca_16 F hd hJ hS had hj hL K I)
      | 17, _ => exact J.run (sn_L_h F) 1 [18] (S' := (589, [(0, .ref 900), (1, .ref 0), (2, .ref 500), (3, .int (nI (4 * j)))], [], WD9 s)) (ob := [(nI 17).toInt = 0 + 17 ∧ (0 : Int) + 17 ≤ 24]) rfl (ob_c (by decide) ob_n) (ca_17 F hd hJ hS had hj hL K I)
      | 18, _ => exact J.run (sn_L_h F) 1 [19] (S' := (622, [(0, .ref 900), (1, .ref 0), (2, .ref 500), (3, .int (nI (4 * j)))], [], WD9 s)) (ob := [(nI 18).toInt = 0 + 18 ∧ (0 : Int) + 18 ≤ 24]) rfl (ob_c (by decide) ob_n) (ca_18 F hd hJ hS had hj hL K I)
      | 19, _ => exact J.run (sn_L_h F) 1 [20] (S' := (655, [(0, .ref 900), (1, .ref 0), (2, .ref 500), (3, .int (nI (4 * j)))], [], WD9 s)) (ob := [(nI 19).toInt = 0 + 19 ∧ (0 : Int) + 19 ≤ 24]) rfl (ob_c (by decide) ob_n) (ca_19 F hd hJ hS had hj hL K I)
      | 20, _ => exact J.run (sn_L_h F) 1 [21] (S' := (668, [(0, .ref 900), (1, .ref 0), (2, .ref 500), (3, .int (nI (4 * j)))], [], WD9 s)) (ob := [(nI 20).toInt = 0 + 20 ∧ (0 : Int) + 20 ≤ 24]) rfl (ob_c (by decide) ob_n) (h20 j s hj K I)
      | 21, _ => exact J.run (sn_L_h F) 1 [22] (S' := (681, [(0, .ref 900), (1, .ref 0), (2, .ref 500), (3, .int (nI (4 * j)))], [], WD9 s)) (ob := [(nI 21).toInt = 0 + 21 ∧ (0 : Int) + 21 ≤ 24]) rfl (ob_c (by decide) ob_n) (h21 j s hj K I)
      | 22, _ => exact J.run (sn_L_h F) 1 [23] (S' := (704, [(0, .ref 900), (1, .ref 0), (2, .ref 500), (3, .int (nI (4 * j)))], [], WD9 s)) (ob := [(nI 22).toInt = 0 + 22 ∧ (0 : Int) + 22 ≤ 24]) rfl (ob_c (by decide) ob_n) (ca_22 F hd hJ hS had hj hL K I)
      | 23, _ => exact J.run (sn_L_h F) 1 [24] (S' := (727, [(0, .ref 900), (1, .ref 0), (2, .ref 500), (3, .int (nI (4 * j)))], [], WD9 s)) (ob := [(nI 23).toInt = 0 + 23 ∧ (0 : Int) + 23 ≤ 24]) rfl (ob_c (by decide) ob_n) (ca_23 F hd hJ hS had hj hL K I)
      | 24, _ => exact J.run (sn_L_h F) 1 [25] (S' := (750, [(0, .ref 900), (1, .ref 0), (2, .ref 500), (3, .int (nI (4 * j)))], [], WD9 s)) (ob := [(nI 24).toInt = 0 + 24 ∧ (0 : Int) + 24 ≤ 24]) rfl (ob_c (by decide) ob_n) (ca_24 F hd hJ hS had hj hL K I)
      | k + 25, hk => exact J.run (sn_L_h F) 1 [0] (S' := (773, [(0, .ref 900), (1, .ref 0), (2, .ref 500), (3, .int (nI (4 * j)))], [], WD9 s)) (ob := [(nI (k + 25)).toInt < 0 ∨ 24 < (nI (k + 25)).toInt]) rfl (ob_c (Or.inr (by rw [nI_toInt (by omega)]; omega)) ob_n) (K s I.up)
    · refine J.run (sn_L_h F) 3 [1] (S' := (779, [(0, .ref 900), (1, .ref 0), (2, .ref 500), (3, .int (nI (4 * j)))], [], WD9 s)) (ob := [(nI L) - 4 < nI (4 * j)]) rfl (ob_c (lp_out hL hb hj) ob_n) ?_
      refine J.run (sn_L_e F) 1 [] (S' := (780, [(0, .ref 900), (1, .ref 0), (2, .ref 500), (3, .int (nI (4 * j)))], [.int 1], WD9 s)) (ob := []) rfl ob_n ?_
      exact hend _ _
