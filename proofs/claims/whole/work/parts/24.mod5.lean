
set_option maxHeartbeats 4000000 in
set_option maxRecDepth 100000 in
theorem c_mtold0 (z h b : Nat → Int32) : Ctr mk_X7_told 2 [.ref 500, .int 0] [(500, mO z), (502, a14 h), (505, a28 b)] (fun r u => r = some (.int (h 0)) ∧ u = [(500, mO z), (502, a14 h), (505, a28 b)]) := by
  refine Ctr.of rfl (Nat.le_of_ble_eq_true rfl) ?_
  intro x ad F hJ hR
  refine J.run (sn_X7_told F) 3 [] (S' := (4, [(0, .ref 500), (1, .int 0)], [.int 11, .int 0, .int 0], [(500, mO z), (502, a14 h), (505, a28 b)])) (ob := []) rfl (ob_n) ?_
  refine J.callS F hJ lk_X7_66 st_X7_in (by decide +kernel) (c_in 0 0 11) (fun k => k) (by decide) [] rfl rfl rfl (by decide) rfl (show List.Nodup [] by decide) (fun r ws' hk hp => ?_)
  obtain ⟨rfl, rfl⟩ := hp
  show J x 2 (ad, 0, 0) (7, [(0, .ref 500), (1, .int 0)], [.int (b2i (inB 0 0 11))], [(500, mO z), (502, a14 h), (505, a28 b)])
  rw [show inB 0 0 11 = true from by decide]
  refine J.run (sn_X7_told F) 10 [1, 0, 0, 0] (S' := (29, [(0, .ref 500), (1, .int 0)], [.int (h 0)], [(500, mO z), (502, a14 h), (505, a28 b)])) (ob := [¬ (1 : Int32) = 0, ¬ 6 ≤ (0 : Int32), (0 : Int32) = 0, ix 0 0 14]) rfl (ob_c (by decide) (ob_c (by decide) (ob_c (by decide) (ob_c (ix_of rfl) ob_n)))) ?_
  refine J.run (sn_X7_told F) 1 [] (S' := (66, [(0, .ref 500), (1, .int 0)], [.int (h 0)], [(500, mO z), (502, a14 h), (505, a28 b)])) (ob := []) rfl (ob_n) ?_
  exact J.iret F hR (Nat.le_refl _) (Nat.le_refl _) rfl rfl (by decide +kernel) ⟨rfl, keq [500, 502, 505] rfl rfl, rfl, rfl⟩
set_option maxHeartbeats 4000000 in
set_option maxRecDepth 100000 in
theorem c_mtold1 (z h b : Nat → Int32) : Ctr mk_X7_told 2 [.ref 500, .int 1] [(500, mO z), (502, a14 h), (505, a28 b)] (fun r u => r = some (.int (b 0)) ∧ u = [(500, mO z), (502, a14 h), (505, a28 b)]) := by
  refine Ctr.of rfl (Nat.le_of_ble_eq_true rfl) ?_
  intro x ad F hJ hR
  refine J.run (sn_X7_told F) 3 [] (S' := (4, [(0, .ref 500), (1, .int 1)], [.int 11, .int 0, .int 1], [(500, mO z), (502, a14 h), (505, a28 b)])) (ob := []) rfl (ob_n) ?_
  refine J.callS F hJ lk_X7_66 st_X7_in (by decide +kernel) (c_in 1 0 11) (fun k => k) (by decide) [] rfl rfl rfl (by decide) rfl (show List.Nodup [] by decide) (fun r ws' hk hp => ?_)
  obtain ⟨rfl, rfl⟩ := hp
  show J x 2 (ad, 0, 0) (7, [(0, .ref 500), (1, .int 1)], [.int (b2i (inB 1 0 11))], [(500, mO z), (502, a14 h), (505, a28 b)])
  rw [show inB 1 0 11 = true from by decide]
  refine J.run (sn_X7_told F) 10 [1, 0, 1, 0] (S' := (38, [(0, .ref 500), (1, .int 1)], [.ref 500], [(500, mO z), (502, a14 h), (505, a28 b)])) (ob := [¬ (1 : Int32) = 0, ¬ 6 ≤ (1 : Int32), ¬ (1 : Int32) = 0, ¬ 4 ≤ (1 : Int32)]) rfl (ob_c (by decide) (ob_c (by decide) (ob_c (by decide) (ob_c (by decide) ob_n)))) ?_
  refine J.run (sn_X7_told F) 6 [0] (S' := (66, [(0, .ref 500), (1, .int 1)], [.int (b 0)], [(500, mO z), (502, a14 h), (505, a28 b)])) (ob := [ix 0 0 28]) rfl (ob_c (ix_of rfl) ob_n) ?_
  exact J.iret F hR (Nat.le_refl _) (Nat.le_refl _) rfl rfl (by decide +kernel) ⟨rfl, keq [500, 502, 505] rfl rfl, rfl, rfl⟩
set_option maxHeartbeats 4000000 in
set_option maxRecDepth 100000 in
theorem c_mtold2 (z h b : Nat → Int32) : Ctr mk_X7_told 2 [.ref 500, .int 2] [(500, mO z), (502, a14 h), (505, a28 b)] (fun r u => r = some (.int (b 1)) ∧ u = [(500, mO z), (502, a14 h), (505, a28 b)]) := by
  refine Ctr.of rfl (Nat.le_of_ble_eq_true rfl) ?_
  intro x ad F hJ hR
  refine J.run (sn_X7_told F) 3 [] (S' := (4, [(0, .ref 500), (1, .int 2)], [.int 11, .int 0, .int 2], [(500, mO z), (502, a14 h), (505, a28 b)])) (ob := []) rfl (ob_n) ?_
  refine J.callS F hJ lk_X7_66 st_X7_in (by decide +kernel) (c_in 2 0 11) (fun k => k) (by decide) [] rfl rfl rfl (by decide) rfl (show List.Nodup [] by decide) (fun r ws' hk hp => ?_)
  obtain ⟨rfl, rfl⟩ := hp
  show J x 2 (ad, 0, 0) (7, [(0, .ref 500), (1, .int 2)], [.int (b2i (inB 2 0 11))], [(500, mO z), (502, a14 h), (505, a28 b)])
  rw [show inB 2 0 11 = true from by decide]
  refine J.run (sn_X7_told F) 10 [1, 0, 1, 0] (S' := (38, [(0, .ref 500), (1, .int 2)], [.ref 500], [(500, mO z), (502, a14 h), (505, a28 b)])) (ob := [¬ (1 : Int32) = 0, ¬ 6 ≤ (2 : Int32), ¬ (2 : Int32) = 0, ¬ 4 ≤ (2 : Int32)]) rfl (ob_c (by decide) (ob_c (by decide) (ob_c (by decide) (ob_c (by decide) ob_n)))) ?_
  refine J.run (sn_X7_told F) 6 [1] (S' := (66, [(0, .ref 500), (1, .int 2)], [.int (b 1)], [(500, mO z), (502, a14 h), (505, a28 b)])) (ob := [ix 1 1 28]) rfl (ob_c (ix_of rfl) ob_n) ?_
  exact J.iret F hR (Nat.le_refl _) (Nat.le_refl _) rfl rfl (by decide +kernel) ⟨rfl, keq [500, 502, 505] rfl rfl, rfl, rfl⟩
set_option maxHeartbeats 4000000 in
set_option maxRecDepth 100000 in
theorem c_mtold3 (z h b : Nat → Int32) : Ctr mk_X7_told 2 [.ref 500, .int 3] [(500, mO z), (502, a14 h), (505, a28 b)] (fun r u => r = some (.int (b 2)) ∧ u = [(500, mO z), (502, a14 h), (505, a28 b)]) := by
  refine Ctr.of rfl (Nat.le_of_ble_eq_true rfl) ?_
  intro x ad F hJ hR
  refine J.run (sn_X7_told F) 3 [] (S' := (4, [(0, .ref 500), (1, .int 3)], [.int 11, .int 0, .int 3], [(500, mO z), (502, a14 h), (505, a28 b)])) (ob := []) rfl (ob_n) ?_
  refine J.callS F hJ lk_X7_66 st_X7_in (by decide +kernel) (c_in 3 0 11) (fun k => k) (by decide) [] rfl rfl rfl (by decide) rfl (show List.Nodup [] by decide) (fun r ws' hk hp => ?_)
  obtain ⟨rfl, rfl⟩ := hp
  show J x 2 (ad, 0, 0) (7, [(0, .ref 500), (1, .int 3)], [.int (b2i (inB 3 0 11))], [(500, mO z), (502, a14 h), (505, a28 b)])
  rw [show inB 3 0 11 = true from by decide]
  refine J.run (sn_X7_told F) 10 [1, 0, 1, 0] (S' := (38, [(0, .ref 500), (1, .int 3)], [.ref 500], [(500, mO z), (502, a14 h), (505, a28 b)])) (ob := [¬ (1 : Int32) = 0, ¬ 6 ≤ (3 : Int32), ¬ (3 : Int32) = 0, ¬ 4 ≤ (3 : Int32)]) rfl (ob_c (by decide) (ob_c (by decide) (ob_c (by decide) (ob_c (by decide) ob_n)))) ?_
  refine J.run (sn_X7_told F) 6 [2] (S' := (66, [(0, .ref 500), (1, .int 3)], [.int (b 2)], [(500, mO z), (502, a14 h), (505, a28 b)])) (ob := [ix 2 2 28]) rfl (ob_c (ix_of rfl) ob_n) ?_
  exact J.iret F hR (Nat.le_refl _) (Nat.le_refl _) rfl rfl (by decide +kernel) ⟨rfl, keq [500, 502, 505] rfl rfl, rfl, rfl⟩
set_option maxHeartbeats 4000000 in
set_option maxRecDepth 100000 in
theorem c_mtold4 (z h b : Nat → Int32) : Ctr mk_X7_told 2 [.ref 500, .int 4] [(500, mO z), (502, a14 h), (505, a28 b)] (fun r u => r = some (.int (h 1)) ∧ u = [(500, mO z), (502, a14 h), (505, a28 b)]) := by
  refine Ctr.of rfl (Nat.le_of_ble_eq_true rfl) ?_
  intro x ad F hJ hR
  refine J.run (sn_X7_told F) 3 [] (S' := (4, [(0, .ref 500), (1, .int 4)], [.int 11, .int 0, .int 4], [(500, mO z), (502, a14 h), (505, a28 b)])) (ob := []) rfl (ob_n) ?_
  refine J.callS F hJ lk_X7_66 st_X7_in (by decide +kernel) (c_in 4 0 11) (fun k => k) (by decide) [] rfl rfl rfl (by decide) rfl (show List.Nodup [] by decide) (fun r ws' hk hp => ?_)
  obtain ⟨rfl, rfl⟩ := hp
  show J x 2 (ad, 0, 0) (7, [(0, .ref 500), (1, .int 4)], [.int (b2i (inB 4 0 11))], [(500, mO z), (502, a14 h), (505, a28 b)])
  rw [show inB 4 0 11 = true from by decide]
  refine J.run (sn_X7_told F) 10 [1, 0, 1, 1] (S' := (49, [(0, .ref 500), (1, .int 4)], [.int 4], [(500, mO z), (502, a14 h), (505, a28 b)])) (ob := [¬ (1 : Int32) = 0, ¬ 6 ≤ (4 : Int32), ¬ (4 : Int32) = 0, 4 ≤ (4 : Int32)]) rfl (ob_c (by decide) (ob_c (by decide) (ob_c (by decide) (ob_c (by decide) ob_n)))) ?_
  refine J.run (sn_X7_told F) 7 [0, 1] (S' := (66, [(0, .ref 500), (1, .int 4)], [.int (h 1)], [(500, mO z), (502, a14 h), (505, a28 b)])) (ob := [(4 : Int32) = 4, ix 1 1 14]) rfl (ob_c (by decide) (ob_c (ix_of rfl) ob_n)) ?_
  exact J.iret F hR (Nat.le_refl _) (Nat.le_refl _) rfl rfl (by decide +kernel) ⟨rfl, keq [500, 502, 505] rfl rfl, rfl, rfl⟩
set_option maxHeartbeats 4000000 in
set_option maxRecDepth 100000 in
theorem c_mtold5 (z h b : Nat → Int32) : Ctr mk_X7_told 2 [.ref 500, .int 5] [(500, mO z), (502, a14 h), (505, a28 b)] (fun r u => r = some (.int (z 1)) ∧ u = [(500, mO z), (502, a14 h), (505, a28 b)]) := by
  refine Ctr.of rfl (Nat.le_of_ble_eq_true rfl) ?_
  intro x ad F hJ hR
  refine J.run (sn_X7_told F) 3 [] (S' := (4, [(0, .ref 500), (1, .int 5)], [.int 11, .int 0, .int 5], [(500, mO z), (502, a14 h), (505, a28 b)])) (ob := []) rfl (ob_n) ?_
  refine J.callS F hJ lk_X7_66 st_X7_in (by decide +kernel) (c_in 5 0 11) (fun k => k) (by decide) [] rfl rfl rfl (by decide) rfl (show List.Nodup [] by decide) (fun r ws' hk hp => ?_)
  obtain ⟨rfl, rfl⟩ := hp
  show J x 2 (ad, 0, 0) (7, [(0, .ref 500), (1, .int 5)], [.int (b2i (inB 5 0 11))], [(500, mO z), (502, a14 h), (505, a28 b)])
  rw [show inB 5 0 11 = true from by decide]
  refine J.run (sn_X7_told F) 10 [1, 0, 1, 1] (S' := (49, [(0, .ref 500), (1, .int 5)], [.int 5], [(500, mO z), (502, a14 h), (505, a28 b)])) (ob := [¬ (1 : Int32) = 0, ¬ 6 ≤ (5 : Int32), ¬ (5 : Int32) = 0, 4 ≤ (5 : Int32)]) rfl (ob_c (by decide) (ob_c (by decide) (ob_c (by decide) (ob_c (by decide) ob_n)))) ?_
  refine J.run (sn_X7_told F) 4 [1] (S' := (66, [(0, .ref 500), (1, .int 5)], [.int (z 1)], [(500, mO z), (502, a14 h), (505, a28 b)])) (ob := [¬ (5 : Int32) = 4]) rfl (ob_c (by decide) ob_n) ?_
  exact J.iret F hR (Nat.le_refl _) (Nat.le_refl _) rfl rfl (by decide +kernel) ⟨rfl, keq [500, 502, 505] rfl rfl, rfl, rfl⟩
set_option maxHeartbeats 4000000 in
set_option maxRecDepth 100000 in
theorem c_mtold6 (z h b : Nat → Int32) : Ctr mk_X7_told 2 [.ref 500, .int 6] [(500, mO z), (502, a14 h), (505, a28 b)] (fun r u => r = some (.int (b 3)) ∧ u = [(500, mO z), (502, a14 h), (505, a28 b)]) := by
  refine Ctr.of rfl (Nat.le_of_ble_eq_true rfl) ?_
  intro x ad F hJ hR
  refine J.run (sn_X7_told F) 3 [] (S' := (4, [(0, .ref 500), (1, .int 6)], [.int 11, .int 0, .int 6], [(500, mO z), (502, a14 h), (505, a28 b)])) (ob := []) rfl (ob_n) ?_
  refine J.callS F hJ lk_X7_66 st_X7_in (by decide +kernel) (c_in 6 0 11) (fun k => k) (by decide) [] rfl rfl rfl (by decide) rfl (show List.Nodup [] by decide) (fun r ws' hk hp => ?_)
  obtain ⟨rfl, rfl⟩ := hp
  show J x 2 (ad, 0, 0) (7, [(0, .ref 500), (1, .int 6)], [.int (b2i (inB 6 0 11))], [(500, mO z), (502, a14 h), (505, a28 b)])
  rw [show inB 6 0 11 = true from by decide]
  refine J.run (sn_X7_told F) 10 [1, 1, 0] (S' := (78, [(0, .ref 500), (1, .int 6)], [.int 6, .ref 505], [(500, mO z), (502, a14 h), (505, a28 b)])) (ob := [¬ (1 : Int32) = 0, 6 ≤ (6 : Int32), ¬ 10 ≤ (6 : Int32)]) rfl (ob_c (by decide) (ob_c (by decide) (ob_c (by decide) ob_n))) ?_
  refine J.run (sn_X7_told F) 4 [3] (S' := (101, [(0, .ref 500), (1, .int 6)], [.int (b 3)], [(500, mO z), (502, a14 h), (505, a28 b)])) (ob := [ix 3 3 28]) rfl (ob_c (ix_of rfl) ob_n) ?_
  exact J.iret F hR (Nat.le_refl _) (Nat.le_refl _) rfl rfl (by decide +kernel) ⟨rfl, keq [500, 502, 505] rfl rfl, rfl, rfl⟩
set_option maxHeartbeats 4000000 in
set_option maxRecDepth 100000 in
theorem c_mtold7 (z h b : Nat → Int32) : Ctr mk_X7_told 2 [.ref 500, .int 7] [(500, mO z), (502, a14 h), (505, a28 b)] (fun r u => r = some (.int (b 4)) ∧ u = [(500, mO z), (502, a14 h), (505, a28 b)]) := by
  refine Ctr.of rfl (Nat.le_of_ble_eq_true rfl) ?_
  intro x ad F hJ hR
  refine J.run (sn_X7_told F) 3 [] (S' := (4, [(0, .ref 500), (1, .int 7)], [.int 11, .int 0, .int 7], [(500, mO z), (502, a14 h), (505, a28 b)])) (ob := []) rfl (ob_n) ?_
  refine J.callS F hJ lk_X7_66 st_X7_in (by decide +kernel) (c_in 7 0 11) (fun k => k) (by decide) [] rfl rfl rfl (by decide) rfl (show List.Nodup [] by decide) (fun r ws' hk hp => ?_)
  obtain ⟨rfl, rfl⟩ := hp
  show J x 2 (ad, 0, 0) (7, [(0, .ref 500), (1, .int 7)], [.int (b2i (inB 7 0 11))], [(500, mO z), (502, a14 h), (505, a28 b)])
  rw [show inB 7 0 11 = true from by decide]
  refine J.run (sn_X7_told F) 10 [1, 1, 0] (S' := (78, [(0, .ref 500), (1, .int 7)], [.int 7, .ref 505], [(500, mO z), (502, a14 h), (505, a28 b)])) (ob := [¬ (1 : Int32) = 0, 6 ≤ (7 : Int32), ¬ 10 ≤ (7 : Int32)]) rfl (ob_c (by decide) (ob_c (by decide) (ob_c (by decide) ob_n))) ?_
  refine J.run (sn_X7_told F) 4 [4] (S' := (101, [(0, .ref 500), (1, .int 7)], [.int (b 4)], [(500, mO z), (502, a14 h), (505, a28 b)])) (ob := [ix 4 4 28]) rfl (ob_c (ix_of rfl) ob_n) ?_
  exact J.iret F hR (Nat.le_refl _) (Nat.le_refl _) rfl rfl (by decide +kernel) ⟨rfl, keq [500, 502, 505] rfl rfl, rfl, rfl⟩
set_option maxHeartbeats 4000000 in
set_option maxRecDepth 100000 in
theorem c_mtold8 (z h b : Nat → Int32) : Ctr mk_X7_told 2 [.ref 500, .int 8] [(500, mO z), (502, a14 h), (505, a28 b)] (fun r u => r = some (.int (b 5)) ∧ u = [(500, mO z), (502, a14 h), (505, a28 b)]) := by
  refine Ctr.of rfl (Nat.le_of_ble_eq_true rfl) ?_
  intro x ad F hJ hR
  refine J.run (sn_X7_told F) 3 [] (S' := (4, [(0, .ref 500), (1, .int 8)], [.int 11, .int 0, .int 8], [(500, mO z), (502, a14 h), (505, a28 b)])) (ob := []) rfl (ob_n) ?_
  refine J.callS F hJ lk_X7_66 st_X7_in (by decide +kernel) (c_in 8 0 11) (fun k => k) (by decide) [] rfl rfl rfl (by decide) rfl (show List.Nodup [] by decide) (fun r ws' hk hp => ?_)
  obtain ⟨rfl, rfl⟩ := hp
  show J x 2 (ad, 0, 0) (7, [(0, .ref 500), (1, .int 8)], [.int (b2i (inB 8 0 11))], [(500, mO z), (502, a14 h), (505, a28 b)])
  rw [show inB 8 0 11 = true from by decide]
  refine J.run (sn_X7_told F) 10 [1, 1, 0] (S' := (78, [(0, .ref 500), (1, .int 8)], [.int 8, .ref 505], [(500, mO z), (502, a14 h), (505, a28 b)])) (ob := [¬ (1 : Int32) = 0, 6 ≤ (8 : Int32), ¬ 10 ≤ (8 : Int32)]) rfl (ob_c (by decide) (ob_c (by decide) (ob_c (by decide) ob_n))) ?_
  refine J.run (sn_X7_told F) 4 [5] (S' := (101, [(0, .ref 500), (1, .int 8)], [.int (b 5)], [(500, mO z), (502, a14 h), (505, a28 b)])) (ob := [ix 5 5 28]) rfl (ob_c (ix_of rfl) ob_n) ?_
  exact J.iret F hR (Nat.le_refl _) (Nat.le_refl _) rfl rfl (by decide +kernel) ⟨rfl, keq [500, 502, 505] rfl rfl, rfl, rfl⟩
set_option maxHeartbeats 4000000 in
set_option maxRecDepth 100000 in
theorem c_mtold9 (z h b : Nat → Int32) : Ctr mk_X7_told 2 [.ref 500, .int 9] [(500, mO z), (502, a14 h), (505, a28 b)] (fun r u => r = some (.int (b 6)) ∧ u = [(500, mO z), (502, a14 h), (505, a28 b)]) := by
  refine Ctr.of rfl (Nat.le_of_ble_eq_true rfl) ?_
  intro x ad F hJ hR
  refine J.run (sn_X7_told F) 3 [] (S' := (4, [(0, .ref 500), (1, .int 9)], [.int 11, .int 0, .int 9], [(500, mO z), (502, a14 h), (505, a28 b)])) (ob := []) rfl (ob_n) ?_
  refine J.callS F hJ lk_X7_66 st_X7_in (by decide +kernel) (c_in 9 0 11) (fun k => k) (by decide) [] rfl rfl rfl (by decide) rfl (show List.Nodup [] by decide) (fun r ws' hk hp => ?_)
  obtain ⟨rfl, rfl⟩ := hp
  show J x 2 (ad, 0, 0) (7, [(0, .ref 500), (1, .int 9)], [.int (b2i (inB 9 0 11))], [(500, mO z), (502, a14 h), (505, a28 b)])
  rw [show inB 9 0 11 = true from by decide]
  refine J.run (sn_X7_told F) 10 [1, 1, 0] (S' := (78, [(0, .ref 500), (1, .int 9)], [.int 9, .ref 505], [(500, mO z), (502, a14 h), (505, a28 b)])) (ob := [¬ (1 : Int32) = 0, 6 ≤ (9 : Int32), ¬ 10 ≤ (9 : Int32)]) rfl (ob_c (by decide) (ob_c (by decide) (ob_c (by decide) ob_n))) ?_
  refine J.run (sn_X7_told F) 4 [6] (S' := (101, [(0, .ref 500), (1, .int 9)], [.int (b 6)], [(500, mO z), (502, a14 h), (505, a28 b)])) (ob := [ix 6 6 28]) rfl (ob_c (ix_of rfl) ob_n) ?_
  exact J.iret F hR (Nat.le_refl _) (Nat.le_refl _) rfl rfl (by decide +kernel) ⟨rfl, keq [500, 502, 505] rfl rfl, rfl, rfl⟩
set_option maxHeartbeats 4000000 in
set_option maxRecDepth 100000 in
theorem c_mtold10 (z h b : Nat → Int32) : Ctr mk_X7_told 2 [.ref 500, .int 10] [(500, mO z), (502, a14 h), (505, a28 b)] (fun r u => r = some (.int (z 11)) ∧ u = [(500, mO z), (502, a14 h), (505, a28 b)]) := by
  refine Ctr.of rfl (Nat.le_of_ble_eq_true rfl) ?_
  intro x ad F hJ hR
  refine J.run (sn_X7_told F) 3 [] (S' := (4, [(0, .ref 500), (1, .int 10)], [.int 11, .int 0, .int 10], [(500, mO z), (502, a14 h), (505, a28 b)])) (ob := []) rfl (ob_n) ?_
  refine J.callS F hJ lk_X7_66 st_X7_in (by decide +kernel) (c_in 10 0 11) (fun k => k) (by decide) [] rfl rfl rfl (by decide) rfl (show List.Nodup [] by decide) (fun r ws' hk hp => ?_)
  obtain ⟨rfl, rfl⟩ := hp
  show J x 2 (ad, 0, 0) (7, [(0, .ref 500), (1, .int 10)], [.int (b2i (inB 10 0 11))], [(500, mO z), (502, a14 h), (505, a28 b)])
  rw [show inB 10 0 11 = true from by decide]
  refine J.run (sn_X7_told F) 10 [1, 1, 1, 0] (S' := (90, [(0, .ref 500), (1, .int 10)], [], [(500, mO z), (502, a14 h), (505, a28 b)])) (ob := [¬ (1 : Int32) = 0, 6 ≤ (10 : Int32), 10 ≤ (10 : Int32), (10 : Int32) = 10]) rfl (ob_c (by decide) (ob_c (by decide) (ob_c (by decide) (ob_c (by decide) ob_n)))) ?_
  refine J.run (sn_X7_told F) 3 [] (S' := (101, [(0, .ref 500), (1, .int 10)], [.int (z 11)], [(500, mO z), (502, a14 h), (505, a28 b)])) (ob := []) rfl (ob_n) ?_
  exact J.iret F hR (Nat.le_refl _) (Nat.le_refl _) rfl rfl (by decide +kernel) ⟨rfl, keq [500, 502, 505] rfl rfl, rfl, rfl⟩
set_option maxHeartbeats 4000000 in
set_option maxRecDepth 100000 in
theorem c_mtold11 (z h b : Nat → Int32) : Ctr mk_X7_told 2 [.ref 500, .int 11] [(500, mO z), (502, a14 h), (505, a28 b)] (fun r u => r = some (.int (z 14)) ∧ u = [(500, mO z), (502, a14 h), (505, a28 b)]) := by
  refine Ctr.of rfl (Nat.le_of_ble_eq_true rfl) ?_
  intro x ad F hJ hR
  refine J.run (sn_X7_told F) 3 [] (S' := (4, [(0, .ref 500), (1, .int 11)], [.int 11, .int 0, .int 11], [(500, mO z), (502, a14 h), (505, a28 b)])) (ob := []) rfl (ob_n) ?_
  refine J.callS F hJ lk_X7_66 st_X7_in (by decide +kernel) (c_in 11 0 11) (fun k => k) (by decide) [] rfl rfl rfl (by decide) rfl (show List.Nodup [] by decide) (fun r ws' hk hp => ?_)
  obtain ⟨rfl, rfl⟩ := hp
  show J x 2 (ad, 0, 0) (7, [(0, .ref 500), (1, .int 11)], [.int (b2i (inB 11 0 11))], [(500, mO z), (502, a14 h), (505, a28 b)])
  rw [show inB 11 0 11 = true from by decide]
  refine J.run (sn_X7_told F) 10 [1, 1, 1, 1] (S' := (97, [(0, .ref 500), (1, .int 11)], [], [(500, mO z), (502, a14 h), (505, a28 b)])) (ob := [¬ (1 : Int32) = 0, 6 ≤ (11 : Int32), 10 ≤ (11 : Int32), ¬ (11 : Int32) = 10]) rfl (ob_c (by decide) (ob_c (by decide) (ob_c (by decide) (ob_c (by decide) ob_n)))) ?_
  refine J.run (sn_X7_told F) 2 [] (S' := (101, [(0, .ref 500), (1, .int 11)], [.int (z 14)], [(500, mO z), (502, a14 h), (505, a28 b)])) (ob := []) rfl (ob_n) ?_
  exact J.iret F hR (Nat.le_refl _) (Nat.le_refl _) rfl rfl (by decide +kernel) ⟨rfl, keq [500, 502, 505] rfl rfl, rfl, rfl⟩
set_option maxHeartbeats 4000000 in
set_option maxRecDepth 100000 in
theorem c_mtoldO (z h b : Nat → Int32) (k : Int32) (hK : inB k 0 11 = false) : Ctr mk_X7_told 2 [.ref 500, .int k] [(500, mO z), (502, a14 h), (505, a28 b)] (fun r u => r = some (.int (-1000000002)) ∧ u = [(500, mO z), (502, a14 h), (505, a28 b)]) := by
  refine Ctr.of rfl (Nat.le_of_ble_eq_true rfl) ?_
  intro x ad F hJ hR
  refine J.run (sn_X7_told F) 3 [] (S' := (4, [(0, .ref 500), (1, .int k)], [.int 11, .int 0, .int k], [(500, mO z), (502, a14 h), (505, a28 b)])) (ob := []) rfl (ob_n) ?_
  refine J.callS F hJ lk_X7_66 st_X7_in (by decide +kernel) (c_in k 0 11) (fun k => k) (by decide) [] rfl rfl rfl (by decide) rfl (show List.Nodup [] by decide) (fun r ws' hk hp => ?_)
  obtain ⟨rfl, rfl⟩ := hp
  show J x 2 (ad, 0, 0) (7, [(0, .ref 500), (1, .int k)], [.int (b2i (inB k 0 11))], [(500, mO z), (502, a14 h), (505, a28 b)])
  rw [hK]
  refine J.run (sn_X7_told F) 2 [0] (S' := (12, [(0, .ref 500), (1, .int k)], [.int (-1000000002)], [(500, mO z), (502, a14 h), (505, a28 b)])) (ob := [(0 : Int32) = 0]) rfl (ob_c (by decide) ob_n) ?_
  exact J.iret F hR (Nat.le_refl _) (Nat.le_refl _) rfl rfl (by decide +kernel) ⟨rfl, keq [500, 502, 505] rfl rfl, rfl, rfl⟩
set_option maxHeartbeats 4000000 in
set_option maxRecDepth 100000 in
theorem c_mthemeU (z h b : Nat → Int32) (m n : Int32) (hM : inB m 0 (h 0 - 1) = false) : Ctr mk_X7_theme 3 [.ref 500, .int m, .int n] [(500, mO z), (502, a14 h), (505, a28 b)] (fun r u => r = some (.int (-1000000001)) ∧ u = [(500, mO z), (502, a14 h), (505, a28 b)]) := by
  refine Ctr.of rfl (Nat.le_of_ble_eq_true rfl) ?_
  intro x ad F hJ hR
  refine J.run (sn_X7_theme F) 2 [] (S' := (2, [(0, .ref 500), (1, .int m), (2, .int n)], [.int m, .ref 500], [(500, mO z), (502, a14 h), (505, a28 b)])) (ob := []) rfl (ob_n) ?_
  refine J.callV F hJ lk_X7_173 im_X7_isMember se_X7_isMember (by decide +kernel) (c_isM z h m) (fun k => k) (by decide) [] rfl rfl rfl rfl rfl (by decide) rfl (show List.Nodup [500, 502] by decide) (fun r ws' hk hp => ?_)
  obtain ⟨rfl, rfl⟩ := hp
  show J x 4 (ad, 0, 0) (5, [(0, .ref 500), (1, .int m), (2, .int n)], [.int (b2i (inB m 0 (h 0 - 1)))], [(500, mO z), (502, a14 h), (505, a28 b)])
  rw [hM]
  refine J.run (sn_X7_theme F) 2 [0] (S' := (10, [(0, .ref 500), (1, .int m), (2, .int n)], [.int (-1000000001)], [(500, mO z), (502, a14 h), (505, a28 b)])) (ob := [(0 : Int32) = 0]) rfl (ob_c (by decide) ob_n) ?_
  exact J.iret F hR (Nat.le_refl _) (Nat.le_refl _) rfl rfl (by decide +kernel) ⟨rfl, keq [500, 502, 505] rfl rfl, rfl, rfl⟩
set_option maxHeartbeats 4000000 in
set_option maxRecDepth 100000 in
theorem c_mthemeO (z h b : Nat → Int32) (m n : Int32) (hM : inB m 0 (h 0 - 1) = true) (hN : inB n 0 99 = false) : Ctr mk_X7_theme 3 [.ref 500, .int m, .int n] [(500, mO z), (502, a14 h), (505, a28 b)] (fun r u => r = some (.int (-1000000002)) ∧ u = [(500, mO z), (502, a14 h), (505, a28 b)]) := by
  refine Ctr.of rfl (Nat.le_of_ble_eq_true rfl) ?_
  intro x ad F hJ hR
  refine J.run (sn_X7_theme F) 2 [] (S' := (2, [(0, .ref 500), (1, .int m), (2, .int n)], [.int m, .ref 500], [(500, mO z), (502, a14 h), (505, a28 b)])) (ob := []) rfl (ob_n) ?_
  refine J.callV F hJ lk_X7_173 im_X7_isMember se_X7_isMember (by decide +kernel) (c_isM z h m) (fun k => k) (by decide) [] rfl rfl rfl rfl rfl (by decide) rfl (show List.Nodup [500, 502] by decide) (fun r ws' hk hp => ?_)
  obtain ⟨rfl, rfl⟩ := hp
  show J x 4 (ad, 0, 0) (5, [(0, .ref 500), (1, .int m), (2, .int n)], [.int (b2i (inB m 0 (h 0 - 1)))], [(500, mO z), (502, a14 h), (505, a28 b)])
  rw [hM]
  refine J.run (sn_X7_theme F) 4 [1] (S' := (15, [(0, .ref 500), (1, .int m), (2, .int n)], [.int 99, .int 0, .int n], [(500, mO z), (502, a14 h), (505, a28 b)])) (ob := [¬ (1 : Int32) = 0]) rfl (ob_c (by decide) ob_n) ?_
  refine J.callS F hJ lk_X7_66 st_X7_in (by decide +kernel) (c_in n 0 99) (fun k => k) (by decide) [] rfl rfl rfl (by decide) rfl (show List.Nodup [] by decide) (fun r ws' hk hp => ?_)
  obtain ⟨rfl, rfl⟩ := hp
  show J x 4 (ad, 0, 0) (18, [(0, .ref 500), (1, .int m), (2, .int n)], [.int (b2i (inB n 0 99))], [(500, mO z), (502, a14 h), (505, a28 b)])
  rw [hN]
  refine J.run (sn_X7_theme F) 2 [0] (S' := (23, [(0, .ref 500), (1, .int m), (2, .int n)], [.int (-1000000002)], [(500, mO z), (502, a14 h), (505, a28 b)])) (ob := [(0 : Int32) = 0]) rfl (ob_c (by decide) ob_n) ?_
  exact J.iret F hR (Nat.le_refl _) (Nat.le_refl _) rfl rfl (by decide +kernel) ⟨rfl, keq [500, 502, 505] rfl rfl, rfl, rfl⟩
set_option maxHeartbeats 4000000 in
set_option maxRecDepth 100000 in
theorem c_mtheme0 (z h b : Nat → Int32) (n : Int32) (hM : inB 0 0 (h 0 - 1) = true) (hN : inB n 0 99 = true) : Ctr mk_X7_theme 3 [.ref 500, .int 0, .int n] [(500, mO z), (502, a14 h), (505, a28 b)] (fun r u => r = some (.int (b 17)) ∧ u = [(500, mO z), (502, a14 h), (505, .inr (.inl (0, [b 0, b 1, b 2, b 3, b 4, b 5, b 6, b 7, b 8, b 9, b 10, b 11, b 12, b 13, b 14, b 15, b 16, n, b 18, b 19, b 20, b 21, b 22, b 23, b 24, b 25, b 26, b 27])))]) := by
  refine Ctr.of rfl (Nat.le_of_ble_eq_true rfl) ?_
  intro x ad F hJ hR
  refine J.run (sn_X7_theme F) 2 [] (S' := (2, [(0, .ref 500), (1, .int 0), (2, .int n)], [.int 0, .ref 500], [(500, mO z), (502, a14 h), (505, a28 b)])) (ob := []) rfl (ob_n) ?_
  refine J.callV F hJ lk_X7_173 im_X7_isMember se_X7_isMember (by decide +kernel) (c_isM z h 0) (fun k => k) (by decide) [] rfl rfl rfl rfl rfl (by decide) rfl (show List.Nodup [500, 502] by decide) (fun r ws' hk hp => ?_)
  obtain ⟨rfl, rfl⟩ := hp
  show J x 4 (ad, 0, 0) (5, [(0, .ref 500), (1, .int 0), (2, .int n)], [.int (b2i (inB 0 0 (h 0 - 1)))], [(500, mO z), (502, a14 h), (505, a28 b)])
  rw [hM]
  refine J.run (sn_X7_theme F) 4 [1] (S' := (15, [(0, .ref 500), (1, .int 0), (2, .int n)], [.int 99, .int 0, .int n], [(500, mO z), (502, a14 h), (505, a28 b)])) (ob := [¬ (1 : Int32) = 0]) rfl (ob_c (by decide) ob_n) ?_
  refine J.callS F hJ lk_X7_66 st_X7_in (by decide +kernel) (c_in n 0 99) (fun k => k) (by decide) [] rfl rfl rfl (by decide) rfl (show List.Nodup [] by decide) (fun r ws' hk hp => ?_)
  obtain ⟨rfl, rfl⟩ := hp
  show J x 4 (ad, 0, 0) (18, [(0, .ref 500), (1, .int 0), (2, .int n)], [.int (b2i (inB n 0 99))], [(500, mO z), (502, a14 h), (505, a28 b)])
  rw [hN]
  refine J.run (sn_X7_theme F) 10 [1, 17] (S' := (38, [(0, .ref 500), (1, .int 0), (2, .int n), (3, .int (b 17))], [.ref 505], [(500, mO z), (502, a14 h), (505, a28 b)])) (ob := [¬ (1 : Int32) = 0, ix 17 17 28]) rfl (ob_c (by decide) (ob_c (ix_of rfl) ob_n)) ?_
  refine J.run (sn_X7_theme F) 6 [17] (S' := (45, [(0, .ref 500), (1, .int 0), (2, .int n), (3, .int (b 17))], [.int (b 17)], [(500, mO z), (502, a14 h), (505, .inr (.inl (0, [b 0, b 1, b 2, b 3, b 4, b 5, b 6, b 7, b 8, b 9, b 10, b 11, b 12, b 13, b 14, b 15, b 16, n, b 18, b 19, b 20, b 21, b 22, b 23, b 24, b 25, b 26, b 27])))])) (ob := [ix 17 17 28]) rfl (ob_c (ix_of rfl) ob_n) ?_
  exact J.iret F hR (Nat.le_refl _) (Nat.le_refl _) rfl rfl (by decide +kernel) ⟨rfl, keq [500, 502, 505] rfl rfl, rfl, rfl⟩
set_option maxHeartbeats 4000000 in
set_option maxRecDepth 100000 in
theorem c_mtheme1 (z h b : Nat → Int32) (n : Int32) (hM : inB 1 0 (h 0 - 1) = true) (hN : inB n 0 99 = true) : Ctr mk_X7_theme 3 [.ref 500, .int 1, .int n] [(500, mO z), (502, a14 h), (505, a28 b)] (fun r u => r = some (.int (b 18)) ∧ u = [(500, mO z), (502, a14 h), (505, .inr (.inl (0, [b 0, b 1, b 2, b 3, b 4, b 5, b 6, b 7, b 8, b 9, b 10, b 11, b 12, b 13, b 14, b 15, b 16, b 17, n, b 19, b 20, b 21, b 22, b 23, b 24, b 25, b 26, b 27])))]) := by
  refine Ctr.of rfl (Nat.le_of_ble_eq_true rfl) ?_
  intro x ad F hJ hR
  refine J.run (sn_X7_theme F) 2 [] (S' := (2, [(0, .ref 500), (1, .int 1), (2, .int n)], [.int 1, .ref 500], [(500, mO z), (502, a14 h), (505, a28 b)])) (ob := []) rfl (ob_n) ?_
  refine J.callV F hJ lk_X7_173 im_X7_isMember se_X7_isMember (by decide +kernel) (c_isM z h 1) (fun k => k) (by decide) [] rfl rfl rfl rfl rfl (by decide) rfl (show List.Nodup [500, 502] by decide) (fun r ws' hk hp => ?_)
  obtain ⟨rfl, rfl⟩ := hp
  show J x 4 (ad, 0, 0) (5, [(0, .ref 500), (1, .int 1), (2, .int n)], [.int (b2i (inB 1 0 (h 0 - 1)))], [(500, mO z), (502, a14 h), (505, a28 b)])
  rw [hM]
  refine J.run (sn_X7_theme F) 4 [1] (S' := (15, [(0, .ref 500), (1, .int 1), (2, .int n)], [.int 99, .int 0, .int n], [(500, mO z), (502, a14 h), (505, a28 b)])) (ob := [¬ (1 : Int32) = 0]) rfl (ob_c (by decide) ob_n) ?_
  refine J.callS F hJ lk_X7_66 st_X7_in (by decide +kernel) (c_in n 0 99) (fun k => k) (by decide) [] rfl rfl rfl (by decide) rfl (show List.Nodup [] by decide) (fun r ws' hk hp => ?_)
  obtain ⟨rfl, rfl⟩ := hp
  show J x 4 (ad, 0, 0) (18, [(0, .ref 500), (1, .int 1), (2, .int n)], [.int (b2i (inB n 0 99))], [(500, mO z), (502, a14 h), (505, a28 b)])
  rw [hN]
  refine J.run (sn_X7_theme F) 10 [1, 18] (S' := (38, [(0, .ref 500), (1, .int 1), (2, .int n), (3, .int (b 18))], [.ref 505], [(500, mO z), (502, a14 h), (505, a28 b)])) (ob := [¬ (1 : Int32) = 0, ix 18 18 28]) rfl (ob_c (by decide) (ob_c (ix_of rfl) ob_n)) ?_
  refine J.run (sn_X7_theme F) 6 [18] (S' := (45, [(0, .ref 500), (1, .int 1), (2, .int n), (3, .int (b 18))], [.int (b 18)], [(500, mO z), (502, a14 h), (505, .inr (.inl (0, [b 0, b 1, b 2, b 3, b 4, b 5, b 6, b 7, b 8, b 9, b 10, b 11, b 12, b 13, b 14, b 15, b 16, b 17, n, b 19, b 20, b 21, b 22, b 23, b 24, b 25, b 26, b 27])))])) (ob := [ix 18 18 28]) rfl (ob_c (ix_of rfl) ob_n) ?_
  exact J.iret F hR (Nat.le_refl _) (Nat.le_refl _) rfl rfl (by decide +kernel) ⟨rfl, keq [500, 502, 505] rfl rfl, rfl, rfl⟩
set_option maxHeartbeats 4000000 in
set_option maxRecDepth 100000 in
theorem c_mtheme2 (z h b : Nat → Int32) (n : Int32) (hM : inB 2 0 (h 0 - 1) = true) (hN : inB n 0 99 = true) : Ctr mk_X7_theme 3 [.ref 500, .int 2, .int n] [(500, mO z), (502, a14 h), (505, a28 b)] (fun r u => r = some (.int (b 19)) ∧ u = [(500, mO z), (502, a14 h), (505, .inr (.inl (0, [b 0, b 1, b 2, b 3, b 4, b 5, b 6, b 7, b 8, b 9, b 10, b 11, b 12, b 13, b 14, b 15, b 16, b 17, b 18, n, b 20, b 21, b 22, b 23, b 24, b 25, b 26, b 27])))]) := by
  refine Ctr.of rfl (Nat.le_of_ble_eq_true rfl) ?_
  intro x ad F hJ hR
  refine J.run (sn_X7_theme F) 2 [] (S' := (2, [(0, .ref 500), (1, .int 2), (2, .int n)], [.int 2, .ref 500], [(500, mO z), (502, a14 h), (505, a28 b)])) (ob := []) rfl (ob_n) ?_
  refine J.callV F hJ lk_X7_173 im_X7_isMember se_X7_isMember (by decide +kernel) (c_isM z h 2) (fun k => k) (by decide) [] rfl rfl rfl rfl rfl (by decide) rfl (show List.Nodup [500, 502] by decide) (fun r ws' hk hp => ?_)
  obtain ⟨rfl, rfl⟩ := hp
  show J x 4 (ad, 0, 0) (5, [(0, .ref 500), (1, .int 2), (2, .int n)], [.int (b2i (inB 2 0 (h 0 - 1)))], [(500, mO z), (502, a14 h), (505, a28 b)])
  rw [hM]
  refine J.run (sn_X7_theme F) 4 [1] (S' := (15, [(0, .ref 500), (1, .int 2), (2, .int n)], [.int 99, .int 0, .int n], [(500, mO z), (502, a14 h), (505, a28 b)])) (ob := [¬ (1 : Int32) = 0]) rfl (ob_c (by decide) ob_n) ?_
  refine J.callS F hJ lk_X7_66 st_X7_in (by decide +kernel) (c_in n 0 99) (fun k => k) (by decide) [] rfl rfl rfl (by decide) rfl (show List.Nodup [] by decide) (fun r ws' hk hp => ?_)
  obtain ⟨rfl, rfl⟩ := hp
  show J x 4 (ad, 0, 0) (18, [(0, .ref 500), (1, .int 2), (2, .int n)], [.int (b2i (inB n 0 99))], [(500, mO z), (502, a14 h), (505, a28 b)])
  rw [hN]
  refine J.run (sn_X7_theme F) 10 [1, 19] (S' := (38, [(0, .ref 500), (1, .int 2), (2, .int n), (3, .int (b 19))], [.ref 505], [(500, mO z), (502, a14 h), (505, a28 b)])) (ob := [¬ (1 : Int32) = 0, ix 19 19 28]) rfl (ob_c (by decide) (ob_c (ix_of rfl) ob_n)) ?_
  refine J.run (sn_X7_theme F) 6 [19] (S' := (45, [(0, .ref 500), (1, .int 2), (2, .int n), (3, .int (b 19))], [.int (b 19)], [(500, mO z), (502, a14 h), (505, .inr (.inl (0, [b 0, b 1, b 2, b 3, b 4, b 5, b 6, b 7, b 8, b 9, b 10, b 11, b 12, b 13, b 14, b 15, b 16, b 17, b 18, n, b 20, b 21, b 22, b 23, b 24, b 25, b 26, b 27])))])) (ob := [ix 19 19 28]) rfl (ob_c (ix_of rfl) ob_n) ?_
  exact J.iret F hR (Nat.le_refl _) (Nat.le_refl _) rfl rfl (by decide +kernel) ⟨rfl, keq [500, 502, 505] rfl rfl, rfl, rfl⟩
set_option maxHeartbeats 4000000 in
set_option maxRecDepth 100000 in
theorem c_mtheme3 (z h b : Nat → Int32) (n : Int32) (hM : inB 3 0 (h 0 - 1) = true) (hN : inB n 0 99 = true) : Ctr mk_X7_theme 3 [.ref 500, .int 3, .int n] [(500, mO z), (502, a14 h), (505, a28 b)] (fun r u => r = some (.int (b 20)) ∧ u = [(500, mO z), (502, a14 h), (505, .inr (.inl (0, [b 0, b 1, b 2, b 3, b 4, b 5, b 6, b 7, b 8, b 9, b 10, b 11, b 12, b 13, b 14, b 15, b 16, b 17, b 18, b 19, n, b 21, b 22, b 23, b 24, b 25, b 26, b 27])))]) := by
  refine Ctr.of rfl (Nat.le_of_ble_eq_true rfl) ?_
  intro x ad F hJ hR
  refine J.run (sn_X7_theme F) 2 [] (S' := (2, [(0, .ref 500), (1, .int 3), (2, .int n)], [.int 3, .ref 500], [(500, mO z), (502, a14 h), (505, a28 b)])) (ob := []) rfl (ob_n) ?_
  refine J.callV F hJ lk_X7_173 im_X7_isMember se_X7_isMember (by decide +kernel) (c_isM z h 3) (fun k => k) (by decide) [] rfl rfl rfl rfl rfl (by decide) rfl (show List.Nodup [500, 502] by decide) (fun r ws' hk hp => ?_)
  obtain ⟨rfl, rfl⟩ := hp
  show J x 4 (ad, 0, 0) (5, [(0, .ref 500), (1, .int 3), (2, .int n)], [.int (b2i (inB 3 0 (h 0 - 1)))], [(500, mO z), (502, a14 h), (505, a28 b)])
  rw [hM]
  refine J.run (sn_X7_theme F) 4 [1] (S' := (15, [(0, .ref 500), (1, .int 3), (2, .int n)], [.int 99, .int 0, .int n], [(500, mO z), (502, a14 h), (505, a28 b)])) (ob := [¬ (1 : Int32) = 0]) rfl (ob_c (by decide) ob_n) ?_
  refine J.callS F hJ lk_X7_66 st_X7_in (by decide +kernel) (c_in n 0 99) (fun k => k) (by decide) [] rfl rfl rfl (by decide) rfl (show List.Nodup [] by decide) (fun r ws' hk hp => ?_)
  obtain ⟨rfl, rfl⟩ := hp
  show J x 4 (ad, 0, 0) (18, [(0, .ref 500), (1, .int 3), (2, .int n)], [.int (b2i (inB n 0 99))], [(500, mO z), (502, a14 h), (505, a28 b)])
  rw [hN]
  refine J.run (sn_X7_theme F) 10 [1, 20] (S' := (38, [(0, .ref 500), (1, .int 3), (2, .int n), (3, .int (b 20))], [.ref 505], [(500, mO z), (502, a14 h), (505, a28 b)])) (ob := [¬ (1 : Int32) = 0, ix 20 20 28]) rfl (ob_c (by decide) (ob_c (ix_of rfl) ob_n)) ?_
  refine J.run (sn_X7_theme F) 6 [20] (S' := (45, [(0, .ref 500), (1, .int 3), (2, .int n), (3, .int (b 20))], [.int (b 20)], [(500, mO z), (502, a14 h), (505, .inr (.inl (0, [b 0, b 1, b 2, b 3, b 4, b 5, b 6, b 7, b 8, b 9, b 10, b 11, b 12, b 13, b 14, b 15, b 16, b 17, b 18, b 19, n, b 21, b 22, b 23, b 24, b 25, b 26, b 27])))])) (ob := [ix 20 20 28]) rfl (ob_c (ix_of rfl) ob_n) ?_
  exact J.iret F hR (Nat.le_refl _) (Nat.le_refl _) rfl rfl (by decide +kernel) ⟨rfl, keq [500, 502, 505] rfl rfl, rfl, rfl⟩
set_option maxHeartbeats 4000000 in
set_option maxRecDepth 100000 in
theorem c_mrecO1 (z : Nat → Int32) (gs ls : List Int32) (p q : Int32) (hP : inB p 0 9 = false) : Ctr mk_X7_record 2 [.ref 500, .int p, .int q] [(500, mO z), (511, .inr (.inl (0, gs))), (512, .inr (.inl (0, ls)))] (fun r u => r = some (.int (-1000000002)) ∧ u = [(500, mO z), (511, .inr (.inl (0, gs))), (512, .inr (.inl (0, ls)))]) := by
  refine Ctr.of rfl (Nat.le_of_ble_eq_true rfl) ?_
  intro x ad F hJ hR
  refine J.run (sn_X7_record F) 3 [] (S' := (4, [(0, .ref 500), (1, .int p), (2, .int q)], [.int 9, .int 0, .int p], [(500, mO z), (511, .inr (.inl (0, gs))), (512, .inr (.inl (0, ls)))])) (ob := []) rfl (ob_n) ?_
  refine J.callS F hJ lk_X7_66 st_X7_in (by decide +kernel) (c_in p 0 9) (fun k => k) (by decide) [] rfl rfl rfl (by decide) rfl (show List.Nodup [] by decide) (fun r ws' hk hp => ?_)
  obtain ⟨rfl, rfl⟩ := hp
  show J x 3 (ad, 0, 0) (7, [(0, .ref 500), (1, .int p), (2, .int q)], [.int (b2i (inB p 0 9))], [(500, mO z), (511, .inr (.inl (0, gs))), (512, .inr (.inl (0, ls)))])
  rw [hP]
  refine J.run (sn_X7_record F) 2 [1] (S' := (21, [(0, .ref 500), (1, .int p), (2, .int q)], [.int (-1000000002)], [(500, mO z), (511, .inr (.inl (0, gs))), (512, .inr (.inl (0, ls)))])) (ob := [(0 : Int32) = 0]) rfl (ob_c (by decide) ob_n) ?_
  exact J.iret F hR (Nat.le_refl _) (Nat.le_refl _) rfl rfl (by decide +kernel) ⟨rfl, keq [500, 511, 512] rfl rfl, rfl, rfl⟩
set_option maxHeartbeats 4000000 in
set_option maxRecDepth 100000 in
theorem c_mrecO2 (z : Nat → Int32) (gs ls : List Int32) (p q : Int32) (hP : inB p 0 9 = true) (hQ : inB q 1 4 = false) : Ctr mk_X7_record 2 [.ref 500, .int p, .int q] [(500, mO z), (511, .inr (.inl (0, gs))), (512, .inr (.inl (0, ls)))] (fun r u => r = some (.int (-1000000002)) ∧ u = [(500, mO z), (511, .inr (.inl (0, gs))), (512, .inr (.inl (0, ls)))]) := by
  refine Ctr.of rfl (Nat.le_of_ble_eq_true rfl) ?_
  intro x ad F hJ hR
  refine J.run (sn_X7_record F) 3 [] (S' := (4, [(0, .ref 500), (1, .int p), (2, .int q)], [.int 9, .int 0, .int p], [(500, mO z), (511, .inr (.inl (0, gs))), (512, .inr (.inl (0, ls)))])) (ob := []) rfl (ob_n) ?_
  refine J.callS F hJ lk_X7_66 st_X7_in (by decide +kernel) (c_in p 0 9) (fun k => k) (by decide) [] rfl rfl rfl (by decide) rfl (show List.Nodup [] by decide) (fun r ws' hk hp => ?_)
  obtain ⟨rfl, rfl⟩ := hp
  show J x 3 (ad, 0, 0) (7, [(0, .ref 500), (1, .int p), (2, .int q)], [.int (b2i (inB p 0 9))], [(500, mO z), (511, .inr (.inl (0, gs))), (512, .inr (.inl (0, ls)))])
  rw [hP]
  refine J.run (sn_X7_record F) 4 [0] (S' := (13, [(0, .ref 500), (1, .int p), (2, .int q)], [.int 4, .int 1, .int q], [(500, mO z), (511, .inr (.inl (0, gs))), (512, .inr (.inl (0, ls)))])) (ob := [¬ (1 : Int32) = 0]) rfl (ob_c (by decide) ob_n) ?_
  refine J.callS F hJ lk_X7_66 st_X7_in (by decide +kernel) (c_in q 1 4) (fun k => k) (by decide) [] rfl rfl rfl (by decide) rfl (show List.Nodup [] by decide) (fun r ws' hk hp => ?_)
  obtain ⟨rfl, rfl⟩ := hp
  show J x 3 (ad, 0, 0) (16, [(0, .ref 500), (1, .int p), (2, .int q)], [.int (b2i (inB q 1 4))], [(500, mO z), (511, .inr (.inl (0, gs))), (512, .inr (.inl (0, ls)))])
  rw [hQ]
  refine J.run (sn_X7_record F) 2 [0] (S' := (21, [(0, .ref 500), (1, .int p), (2, .int q)], [.int (-1000000002)], [(500, mO z), (511, .inr (.inl (0, gs))), (512, .inr (.inl (0, ls)))])) (ob := [(0 : Int32) = 0]) rfl (ob_c (by decide) ob_n) ?_
  exact J.iret F hR (Nat.le_refl _) (Nat.le_refl _) rfl rfl (by decide +kernel) ⟨rfl, keq [500, 511, 512] rfl rfl, rfl, rfl⟩
set_option maxHeartbeats 4000000 in
set_option maxRecDepth 100000 in
theorem c_mrecF (z : Nat → Int32) (gs ls : List Int32) (p q : Int32) (hP : inB p 0 9 = true) (hQ : inB q 1 4 = true) : Ctr mk_X7_record 2 [.ref 500, .int p, .int q] [(500, .inl (7, [.ref 501, .int (z 1), .ref 502, .ref 503, .ref 504, .ref 505, .ref 506, .ref 507, .ref 508, .ref 509, .ref 510, .int (z 11), .ref 511, .ref 512, .int 7, .int (z 15), .int (z 16), .int (z 17), .int (z 18), .int (z 19), .int (z 20), .int (z 21), .int (z 22), .int (z 23), .ref 513, .ref 514, .int (z 26)])), (511, .inr (.inl (0, gs))), (512, .inr (.inl (0, ls)))] (fun r u => r = some (.int (-1000000004)) ∧ u = [(500, .inl (7, [.ref 501, .int (z 1), .ref 502, .ref 503, .ref 504, .ref 505, .ref 506, .ref 507, .ref 508, .ref 509, .ref 510, .int (z 11), .ref 511, .ref 512, .int 7, .int (z 15), .int (z 16), .int (z 17), .int (z 18), .int (z 19), .int (z 20), .int (z 21), .int (z 22), .int (z 23), .ref 513, .ref 514, .int (z 26)])), (511, .inr (.inl (0, gs))), (512, .inr (.inl (0, ls)))]) := by
  refine Ctr.of rfl (Nat.le_of_ble_eq_true rfl) ?_
  intro x ad F hJ hR
  refine J.run (sn_X7_record F) 3 [] (S' := (4, [(0, .ref 500), (1, .int p), (2, .int q)], [.int 9, .int 0, .int p], [(500, .inl (7, [.ref 501, .int (z 1), .ref 502, .ref 503, .ref 504, .ref 505, .ref 506, .ref 507, .ref 508, .ref 509, .ref 510, .int (z 11), .ref 511, .ref 512, .int 7, .int (z 15), .int (z 16), .int (z 17), .int (z 18), .int (z 19), .int (z 20), .int (z 21), .int (z 22), .int (z 23), .ref 513, .ref 514, .int (z 26)])), (511, .inr (.inl (0, gs))), (512, .inr (.inl (0, ls)))])) (ob := []) rfl (ob_n) ?_
  refine J.callS F hJ lk_X7_66 st_X7_in (by decide +kernel) (c_in p 0 9) (fun k => k) (by decide) [] rfl rfl rfl (by decide) rfl (show List.Nodup [] by decide) (fun r ws' hk hp => ?_)
  obtain ⟨rfl, rfl⟩ := hp
  show J x 3 (ad, 0, 0) (7, [(0, .ref 500), (1, .int p), (2, .int q)], [.int (b2i (inB p 0 9))], [(500, .inl (7, [.ref 501, .int (z 1), .ref 502, .ref 503, .ref 504, .ref 505, .ref 506, .ref 507, .ref 508, .ref 509, .ref 510, .int (z 11), .ref 511, .ref 512, .int 7, .int (z 15), .int (z 16), .int (z 17), .int (z 18), .int (z 19), .int (z 20), .int (z 21), .int (z 22), .int (z 23), .ref 513, .ref 514, .int (z 26)])), (511, .inr (.inl (0, gs))), (512, .inr (.inl (0, ls)))])
  rw [hP]
  refine J.run (sn_X7_record F) 4 [0] (S' := (13, [(0, .ref 500), (1, .int p), (2, .int q)], [.int 4, .int 1, .int q], [(500, .inl (7, [.ref 501, .int (z 1), .ref 502, .ref 503, .ref 504, .ref 505, .ref 506, .ref 507, .ref 508, .ref 509, .ref 510, .int (z 11), .ref 511, .ref 512, .int 7, .int (z 15), .int (z 16), .int (z 17), .int (z 18), .int (z 19), .int (z 20), .int (z 21), .int (z 22), .int (z 23), .ref 513, .ref 514, .int (z 26)])), (511, .inr (.inl (0, gs))), (512, .inr (.inl (0, ls)))])) (ob := [¬ (1 : Int32) = 0]) rfl (ob_c (by decide) ob_n) ?_
  refine J.callS F hJ lk_X7_66 st_X7_in (by decide +kernel) (c_in q 1 4) (fun k => k) (by decide) [] rfl rfl rfl (by decide) rfl (show List.Nodup [] by decide) (fun r ws' hk hp => ?_)
  obtain ⟨rfl, rfl⟩ := hp
  show J x 3 (ad, 0, 0) (16, [(0, .ref 500), (1, .int p), (2, .int q)], [.int (b2i (inB q 1 4))], [(500, .inl (7, [.ref 501, .int (z 1), .ref 502, .ref 503, .ref 504, .ref 505, .ref 506, .ref 507, .ref 508, .ref 509, .ref 510, .int (z 11), .ref 511, .ref 512, .int 7, .int (z 15), .int (z 16), .int (z 17), .int (z 18), .int (z 19), .int (z 20), .int (z 21), .int (z 22), .int (z 23), .ref 513, .ref 514, .int (z 26)])), (511, .inr (.inl (0, gs))), (512, .inr (.inl (0, ls)))])
  rw [hQ]
  refine J.run (sn_X7_record F) 6 [1, 0] (S' := (33, [(0, .ref 500), (1, .int p), (2, .int q)], [.int (-1000000004)], [(500, .inl (7, [.ref 501, .int (z 1), .ref 502, .ref 503, .ref 504, .ref 505, .ref 506, .ref 507, .ref 508, .ref 509, .ref 510, .int (z 11), .ref 511, .ref 512, .int 7, .int (z 15), .int (z 16), .int (z 17), .int (z 18), .int (z 19), .int (z 20), .int (z 21), .int (z 22), .int (z 23), .ref 513, .ref 514, .int (z 26)])), (511, .inr (.inl (0, gs))), (512, .inr (.inl (0, ls)))])) (ob := [¬ (1 : Int32) = 0, (7 : Int32) = 7]) rfl (ob_c (by decide) (ob_c (by decide) ob_n)) ?_
  exact J.iret F hR (Nat.le_refl _) (Nat.le_refl _) rfl rfl (by decide +kernel) ⟨rfl, keq [500, 511, 512] rfl rfl, rfl, rfl⟩
set_option maxHeartbeats 4000000 in
set_option maxRecDepth 100000 in
theorem c_mrec (z : Nat → Int32) (gs ls : List Int32) (hgs : gs.length = 7) (hls : ls.length = 7) (c : Nat) (hc : c < 7) (p q : Int32) (hP : inB p 0 9 = true) (hQ : inB q 1 4 = true) : Ctr mk_X7_record 2 [.ref 500, .int p, .int q] [(500, .inl (7, [.ref 501, .int (z 1), .ref 502, .ref 503, .ref 504, .ref 505, .ref 506, .ref 507, .ref 508, .ref 509, .ref 510, .int (z 11), .ref 511, .ref 512, .int (nI c), .int (z 15), .int (z 16), .int (z 17), .int (z 18), .int (z 19), .int (z 20), .int (z 21), .int (z 22), .int (z 23), .ref 513, .ref 514, .int (z 26)])), (511, .inr (.inl (0, gs))), (512, .inr (.inl (0, ls)))] (fun r u => r = some (.int (nI (c + 1))) ∧ u = [(500, .inl (7, [.ref 501, .int (z 1), .ref 502, .ref 503, .ref 504, .ref 505, .ref 506, .ref 507, .ref 508, .ref 509, .ref 510, .int (z 11), .ref 511, .ref 512, .int (nI (c + 1)), .int (z 15), .int (z 16), .int (z 17), .int (z 18), .int (z 19), .int (z 20), .int (z 21), .int (z 22), .int (z 23), .ref 513, .ref 514, .int (z 26)])), (511, .inr (.inl (0, gs.set c p))), (512, .inr (.inl (0, ls.set c q)))]) := by
  refine Ctr.of rfl (Nat.le_of_ble_eq_true rfl) ?_
  intro x ad F hJ hR
  refine J.run (sn_X7_record F) 3 [] (S' := (4, [(0, .ref 500), (1, .int p), (2, .int q)], [.int 9, .int 0, .int p], [(500, .inl (7, [.ref 501, .int (z 1), .ref 502, .ref 503, .ref 504, .ref 505, .ref 506, .ref 507, .ref 508, .ref 509, .ref 510, .int (z 11), .ref 511, .ref 512, .int (nI c), .int (z 15), .int (z 16), .int (z 17), .int (z 18), .int (z 19), .int (z 20), .int (z 21), .int (z 22), .int (z 23), .ref 513, .ref 514, .int (z 26)])), (511, .inr (.inl (0, gs))), (512, .inr (.inl (0, ls)))])) (ob := []) rfl (ob_n) ?_
  refine J.callS F hJ lk_X7_66 st_X7_in (by decide +kernel) (c_in p 0 9) (fun k => k) (by decide) [] rfl rfl rfl (by decide) rfl (show List.Nodup [] by decide) (fun r ws' hk hp => ?_)
  obtain ⟨rfl, rfl⟩ := hp
  show J x 3 (ad, 0, 0) (7, [(0, .ref 500), (1, .int p), (2, .int q)], [.int (b2i (inB p 0 9))], [(500, .inl (7, [.ref 501, .int (z 1), .ref 502, .ref 503, .ref 504, .ref 505, .ref 506, .ref 507, .ref 508, .ref 509, .ref 510, .int (z 11), .ref 511, .ref 512, .int (nI c), .int (z 15), .int (z 16), .int (z 17), .int (z 18), .int (z 19), .int (z 20), .int (z 21), .int (z 22), .int (z 23), .ref 513, .ref 514, .int (z 26)])), (511, .inr (.inl (0, gs))), (512, .inr (.inl (0, ls)))])
  rw [hP]
  refine J.run (sn_X7_record F) 4 [0] (S' := (13, [(0, .ref 500), (1, .int p), (2, .int q)], [.int 4, .int 1, .int q], [(500, .inl (7, [.ref 501, .int (z 1), .ref 502, .ref 503, .ref 504, .ref 505, .ref 506, .ref 507, .ref 508, .ref 509, .ref 510, .int (z 11), .ref 511, .ref 512, .int (nI c), .int (z 15), .int (z 16), .int (z 17), .int (z 18), .int (z 19), .int (z 20), .int (z 21), .int (z 22), .int (z 23), .ref 513, .ref 514, .int (z 26)])), (511, .inr (.inl (0, gs))), (512, .inr (.inl (0, ls)))])) (ob := [¬ (1 : Int32) = 0]) rfl (ob_c (by decide) ob_n) ?_
  refine J.callS F hJ lk_X7_66 st_X7_in (by decide +kernel) (c_in q 1 4) (fun k => k) (by decide) [] rfl rfl rfl (by decide) rfl (show List.Nodup [] by decide) (fun r ws' hk hp => ?_)
  obtain ⟨rfl, rfl⟩ := hp
  show J x 3 (ad, 0, 0) (16, [(0, .ref 500), (1, .int p), (2, .int q)], [.int (b2i (inB q 1 4))], [(500, .inl (7, [.ref 501, .int (z 1), .ref 502, .ref 503, .ref 504, .ref 505, .ref 506, .ref 507, .ref 508, .ref 509, .ref 510, .int (z 11), .ref 511, .ref 512, .int (nI c), .int (z 15), .int (z 16), .int (z 17), .int (z 18), .int (z 19), .int (z 20), .int (z 21), .int (z 22), .int (z 23), .ref 513, .ref 514, .int (z 26)])), (511, .inr (.inl (0, gs))), (512, .inr (.inl (0, ls)))])
  rw [hQ]
  refine J.run (sn_X7_record F) 10 [1, 1] (S' := (43, [(0, .ref 500), (1, .int p), (2, .int q)], [.int p, .int (nI c), .ref 511], [(500, .inl (7, [.ref 501, .int (z 1), .ref 502, .ref 503, .ref 504, .ref 505, .ref 506, .ref 507, .ref 508, .ref 509, .ref 510, .int (z 11), .ref 511, .ref 512, .int (nI c), .int (z 15), .int (z 16), .int (z 17), .int (z 18), .int (z 19), .int (z 20), .int (z 21), .int (z 22), .int (z 23), .ref 513, .ref 514, .int (z 26)])), (511, .inr (.inl (0, gs))), (512, .inr (.inl (0, ls)))])) (ob := [¬ (1 : Int32) = 0, ¬ (nI c) = 7]) rfl (ob_c (by decide) (ob_c (n_ne (b := 7) (by omega) (by omega) (by omega)) ob_n)) ?_
  refine J.run (sn_X7_record F) 10 [c, c] (S' := (59, [(0, .ref 500), (1, .int p), (2, .int q)], [.int (nI c), .ref 500], [(500, .inl (7, [.ref 501, .int (z 1), .ref 502, .ref 503, .ref 504, .ref 505, .ref 506, .ref 507, .ref 508, .ref 509, .ref 510, .int (z 11), .ref 511, .ref 512, .int (nI c), .int (z 15), .int (z 16), .int (z 17), .int (z 18), .int (z 19), .int (z 20), .int (z 21), .int (z 22), .int (z 23), .ref 513, .ref 514, .int (z 26)])), (511, .inr (.inl (0, (gs.set c p)))), (512, .inr (.inl (0, (ls.set c q))))])) (ob := [ix (nI c) c gs.length, ix (nI c) c ls.length]) rfl (ob_c (ix_len hgs (ix_nI hc (by decide))) (ob_c (ix_len hls (ix_nI hc (by decide))) ob_n)) ?_
  refine J.run (sn_X7_record F) 5 [] (S' := (68, [(0, .ref 500), (1, .int p), (2, .int q)], [.int ((nI c) + 1)], [(500, .inl (7, [.ref 501, .int (z 1), .ref 502, .ref 503, .ref 504, .ref 505, .ref 506, .ref 507, .ref 508, .ref 509, .ref 510, .int (z 11), .ref 511, .ref 512, .int ((nI c) + 1), .int (z 15), .int (z 16), .int (z 17), .int (z 18), .int (z 19), .int (z 20), .int (z 21), .int (z 22), .int (z 23), .ref 513, .ref 514, .int (z 26)])), (511, .inr (.inl (0, (gs.set c p)))), (512, .inr (.inl (0, (ls.set c q))))])) (ob := []) rfl (ob_n) ?_
  exact J.iret F hR (Nat.le_refl _) (Nat.le_refl _) rfl rfl (by decide +kernel) ⟨rfl, keq [500, 511, 512] rfl rfl, by rw [nI_1], by simp only [nI_1]⟩
set_option maxHeartbeats 4000000 in
set_option maxRecDepth 100000 in
theorem c_mfollow (z h b c : Nat → Int32) (ps : List Int32) (hps : ps.length = 30) (n : Nat) (hnn : n ≤ 30) (hn : h 0 ≤ 4) (hst : st5 b) : Ctr mk_X7_follow 5 [.ref 500] [(500, mO (zp z n)), (502, a14 h), (505, a28 b), (506, a28 c), (510, .inr (.inl (0, ps)))] (fun r u => r = some (.int (mrB h ps (mcp b) n 25)) ∧ u = [(500, mO (zp z n)), (502, a14 h), (505, a28 (mtk b (mrB h ps (mcp b) n))), (506, a28 (mrB h ps (mcp b) n)), (510, .inr (.inl (0, ps)))]) := by
  refine Ctr.of rfl (Nat.le_of_ble_eq_true rfl) ?_
  intro x ad F hJ hR
  refine J.run (sn_X7_follow F) 1 [] (S' := (1, [(0, .ref 500)], [.ref 500], [(500, mO (zp z n)), (502, a14 h), (505, a28 b), (506, a28 c), (510, .inr (.inl (0, ps)))])) (ob := []) rfl (ob_n) ?_
  refine J.callV F hJ lk_X7_183 im_X7_copies se_X7_copies (by decide +kernel) (c_copies (zp z n) b c) (fun k => k) (by decide) [] rfl rfl rfl rfl rfl (by decide) rfl (show List.Nodup [500, 505, 506] by decide) (fun r ws' hk hp => ?_)
  obtain ⟨rfl, rfl⟩ := hp
  show J x 1 (ad, 0, 0) (4, [(0, .ref 500)], [], [(500, mO (zp z n)), (502, a14 h), (505, a28 b), (506, a28 (mcp b)), (510, .inr (.inl (0, ps)))])
  refine J.run (sn_X7_follow F) 1 [] (S' := (5, [(0, .ref 500)], [.ref 500], [(500, mO (zp z n)), (502, a14 h), (505, a28 b), (506, a28 (mcp b)), (510, .inr (.inl (0, ps)))])) (ob := []) rfl (ob_n) ?_
  refine J.callV F hJ lk_X7_206 im_X7_runs se_X7_runs (by decide +kernel) (c_runs z h (mcp b) ps hps n hnn hn hst) (fun k => k) (by decide) [] rfl rfl rfl rfl rfl (by decide) rfl (show List.Nodup [500, 502, 506, 510] by decide) (fun r ws' hk hp => ?_)
  obtain ⟨rfl, rfl⟩ := hp
  show J x 1 (ad, 0, 0) (8, [(0, .ref 500)], [], [(500, mO (zp z n)), (502, a14 h), (505, a28 b), (506, a28 (mrB h ps (mcp b) n)), (510, .inr (.inl (0, ps)))])
  refine J.run (sn_X7_follow F) 1 [] (S' := (9, [(0, .ref 500)], [.ref 500], [(500, mO (zp z n)), (502, a14 h), (505, a28 b), (506, a28 (mrB h ps (mcp b) n)), (510, .inr (.inl (0, ps)))])) (ob := []) rfl (ob_n) ?_
  refine J.callV F hJ lk_X7_189 im_X7_takes se_X7_takes (by decide +kernel) (c_takes (zp z n) b (mrB h ps (mcp b) n)) (fun k => k) (by decide) [] rfl rfl rfl rfl rfl (by decide) rfl (show List.Nodup [500, 505, 506] by decide) (fun r ws' hk hp => ?_)
  obtain ⟨rfl, rfl⟩ := hp
  show J x 1 (ad, 0, 0) (12, [(0, .ref 500)], [], [(500, mO (zp z n)), (502, a14 h), (505, a28 (mtk b (mrB h ps (mcp b) n))), (506, a28 (mrB h ps (mcp b) n)), (510, .inr (.inl (0, ps)))])
  refine J.run (sn_X7_follow F) 4 [25] (S' := (19, [(0, .ref 500)], [.int (mrB h ps (mcp b) n 25)], [(500, mO (zp z n)), (502, a14 h), (505, a28 (mtk b (mrB h ps (mcp b) n))), (506, a28 (mrB h ps (mcp b) n)), (510, .inr (.inl (0, ps)))])) (ob := [ix 25 25 28]) rfl (ob_c (ix_of rfl) ob_n) ?_
  exact J.iret F hR (Nat.le_refl _) (Nat.le_refl _) rfl rfl (by decide +kernel) ⟨rfl, keq [500, 502, 505, 506, 510] rfl rfl, rfl, rfl⟩
set_option maxHeartbeats 4000000 in
set_option maxRecDepth 100000 in
theorem c_mrunU (z h b c : Nat → Int32) (ps : List Int32) (hps : ps.length = 30) (n : Nat) (hnn : n ≤ 30) (hn : h 0 ≤ 4) (hst : st5 b) (m w : Int32) (hM : inB m (-1) (h 0 - 1) = false) : Ctr mk_X7_run 5 [.ref 500, .int m, .int w] [(500, mO (zp z n)), (502, a14 h), (505, a28 b), (506, a28 c), (510, .inr (.inl (0, ps)))] (fun r u => r = some (.int (-1000000001)) ∧ u = [(500, mO (zp z n)), (502, a14 h), (505, a28 b), (506, a28 c), (510, .inr (.inl (0, ps)))]) := by
  refine Ctr.of rfl (Nat.le_of_ble_eq_true rfl) ?_
  intro x ad F hJ hR
  refine J.run (sn_X7_run F) 8 [0] (S' := (10, [(0, .ref 500), (1, .int m), (2, .int w)], [.int ((h 0) - 1), .int (-1), .int m], [(500, mO (zp z n)), (502, a14 h), (505, a28 b), (506, a28 c), (510, .inr (.inl (0, ps)))])) (ob := [ix 0 0 14]) rfl (ob_c (ix_of rfl) ob_n) ?_
  refine J.callS F hJ lk_X7_66 st_X7_in (by decide +kernel) (c_in m (-1) ((h 0) - 1)) (fun k => k) (by decide) [] rfl rfl rfl (by decide) rfl (show List.Nodup [] by decide) (fun r ws' hk hp => ?_)
  obtain ⟨rfl, rfl⟩ := hp
  show J x 3 (ad, 0, 0) (13, [(0, .ref 500), (1, .int m), (2, .int w)], [.int (b2i (inB m (-1) ((h 0) - 1)))], [(500, mO (zp z n)), (502, a14 h), (505, a28 b), (506, a28 c), (510, .inr (.inl (0, ps)))])
  rw [hM]
  refine J.run (sn_X7_run F) 2 [0] (S' := (18, [(0, .ref 500), (1, .int m), (2, .int w)], [.int (-1000000001)], [(500, mO (zp z n)), (502, a14 h), (505, a28 b), (506, a28 c), (510, .inr (.inl (0, ps)))])) (ob := [(0 : Int32) = 0]) rfl (ob_c (by decide) ob_n) ?_
  exact J.iret F hR (Nat.le_refl _) (Nat.le_refl _) rfl rfl (by decide +kernel) ⟨rfl, keq [500, 502, 505, 506, 510] rfl rfl, rfl, rfl⟩
set_option maxHeartbeats 4000000 in
set_option maxRecDepth 100000 in
theorem c_mrunO (z h b c : Nat → Int32) (ps : List Int32) (hps : ps.length = 30) (n : Nat) (hnn : n ≤ 30) (hn : h 0 ≤ 4) (hst : st5 b) (w : Int32) (hM : inB (-1) (-1) (h 0 - 1) = true) (hW : inB w 0 3 = false) : Ctr mk_X7_run 5 [.ref 500, .int (-1), .int w] [(500, mO (zp z n)), (502, a14 h), (505, a28 b), (506, a28 c), (510, .inr (.inl (0, ps)))] (fun r u => r = some (.int (-1000000002)) ∧ u = [(500, mO (zp z n)), (502, a14 h), (505, a28 b), (506, a28 c), (510, .inr (.inl (0, ps)))]) := by
  refine Ctr.of rfl (Nat.le_of_ble_eq_true rfl) ?_
  intro x ad F hJ hR
  refine J.run (sn_X7_run F) 8 [0] (S' := (10, [(0, .ref 500), (1, .int (-1)), (2, .int w)], [.int ((h 0) - 1), .int (-1), .int (-1)], [(500, mO (zp z n)), (502, a14 h), (505, a28 b), (506, a28 c), (510, .inr (.inl (0, ps)))])) (ob := [ix 0 0 14]) rfl (ob_c (ix_of rfl) ob_n) ?_
  refine J.callS F hJ lk_X7_66 st_X7_in (by decide +kernel) (c_in (-1) (-1) ((h 0) - 1)) (fun k => k) (by decide) [] rfl rfl rfl (by decide) rfl (show List.Nodup [] by decide) (fun r ws' hk hp => ?_)
  obtain ⟨rfl, rfl⟩ := hp
  show J x 3 (ad, 0, 0) (13, [(0, .ref 500), (1, .int (-1)), (2, .int w)], [.int (b2i (inB (-1) (-1) ((h 0) - 1)))], [(500, mO (zp z n)), (502, a14 h), (505, a28 b), (506, a28 c), (510, .inr (.inl (0, ps)))])
  rw [hM]
  refine J.run (sn_X7_run F) 7 [1, 0] (S' := (27, [(0, .ref 500), (1, .int (-1)), (2, .int w)], [.int 3, .int 0, .int w], [(500, mO (zp z n)), (502, a14 h), (505, a28 b), (506, a28 c), (510, .inr (.inl (0, ps)))])) (ob := [¬ (1 : Int32) = 0, ((-1) : Int32) = (-1)]) rfl (ob_c (by decide) (ob_c (by decide) ob_n)) ?_
  refine J.callS F hJ lk_X7_66 st_X7_in (by decide +kernel) (c_in w 0 3) (fun k => k) (by decide) [] rfl rfl rfl (by decide) rfl (show List.Nodup [] by decide) (fun r ws' hk hp => ?_)
  obtain ⟨rfl, rfl⟩ := hp
  show J x 3 (ad, 0, 0) (30, [(0, .ref 500), (1, .int (-1)), (2, .int w)], [.int (b2i (inB w 0 3))], [(500, mO (zp z n)), (502, a14 h), (505, a28 b), (506, a28 c), (510, .inr (.inl (0, ps)))])
  rw [hW]
  refine J.run (sn_X7_run F) 2 [0] (S' := (35, [(0, .ref 500), (1, .int (-1)), (2, .int w)], [.int (-1000000002)], [(500, mO (zp z n)), (502, a14 h), (505, a28 b), (506, a28 c), (510, .inr (.inl (0, ps)))])) (ob := [(0 : Int32) = 0]) rfl (ob_c (by decide) ob_n) ?_
  exact J.iret F hR (Nat.le_refl _) (Nat.le_refl _) rfl rfl (by decide +kernel) ⟨rfl, keq [500, 502, 505, 506, 510] rfl rfl, rfl, rfl⟩
set_option maxHeartbeats 4000000 in
set_option maxRecDepth 100000 in
theorem c_mrun0 (z h b c : Nat → Int32) (ps : List Int32) (hps : ps.length = 30) (n : Nat) (hnn : n ≤ 30) (hn : h 0 ≤ 4) (hst : st5 b) (hM : inB (-1) (-1) (h 0 - 1) = true) : Ctr mk_X7_run 5 [.ref 500, .int (-1), .int 0] [(500, mO (zp z n)), (502, a14 h), (505, a28 b), (506, a28 c), (510, .inr (.inl (0, ps)))] (fun r u => r = some (.int (mrB h ps (mcp b) n 25)) ∧ u = [(500, mO (zp z n)), (502, a14 h), (505, a28 b), (506, a28 (mrB h ps (mcp b) n)), (510, .inr (.inl (0, ps)))]) := by
  refine Ctr.of rfl (Nat.le_of_ble_eq_true rfl) ?_
  intro x ad F hJ hR
  refine J.run (sn_X7_run F) 8 [0] (S' := (10, [(0, .ref 500), (1, .int (-1)), (2, .int 0)], [.int ((h 0) - 1), .int (-1), .int (-1)], [(500, mO (zp z n)), (502, a14 h), (505, a28 b), (506, a28 c), (510, .inr (.inl (0, ps)))])) (ob := [ix 0 0 14]) rfl (ob_c (ix_of rfl) ob_n) ?_
  refine J.callS F hJ lk_X7_66 st_X7_in (by decide +kernel) (c_in (-1) (-1) ((h 0) - 1)) (fun k => k) (by decide) [] rfl rfl rfl (by decide) rfl (show List.Nodup [] by decide) (fun r ws' hk hp => ?_)
  obtain ⟨rfl, rfl⟩ := hp
  show J x 3 (ad, 0, 0) (13, [(0, .ref 500), (1, .int (-1)), (2, .int 0)], [.int (b2i (inB (-1) (-1) ((h 0) - 1)))], [(500, mO (zp z n)), (502, a14 h), (505, a28 b), (506, a28 c), (510, .inr (.inl (0, ps)))])
  rw [hM]
  refine J.run (sn_X7_run F) 7 [1, 0] (S' := (27, [(0, .ref 500), (1, .int (-1)), (2, .int 0)], [.int 3, .int 0, .int 0], [(500, mO (zp z n)), (502, a14 h), (505, a28 b), (506, a28 c), (510, .inr (.inl (0, ps)))])) (ob := [¬ (1 : Int32) = 0, ((-1) : Int32) = (-1)]) rfl (ob_c (by decide) (ob_c (by decide) ob_n)) ?_
  refine J.callS F hJ lk_X7_66 st_X7_in (by decide +kernel) (c_in 0 0 3) (fun k => k) (by decide) [] rfl rfl rfl (by decide) rfl (show List.Nodup [] by decide) (fun r ws' hk hp => ?_)
  obtain ⟨rfl, rfl⟩ := hp
  show J x 3 (ad, 0, 0) (30, [(0, .ref 500), (1, .int (-1)), (2, .int 0)], [.int (b2i (inB 0 0 3))], [(500, mO (zp z n)), (502, a14 h), (505, a28 b), (506, a28 c), (510, .inr (.inl (0, ps)))])
  rw [show inB 0 0 3 = true from by decide]
  refine J.run (sn_X7_run F) 2 [1] (S' := (37, [(0, .ref 500), (1, .int (-1)), (2, .int 0)], [.ref 500], [(500, mO (zp z n)), (502, a14 h), (505, a28 b), (506, a28 c), (510, .inr (.inl (0, ps)))])) (ob := [¬ (1 : Int32) = 0]) rfl (ob_c (by decide) ob_n) ?_
  refine J.callV F hJ lk_X7_183 im_X7_copies se_X7_copies (by decide +kernel) (c_copies (zp z n) b c) (fun k => k) (by decide) [] rfl rfl rfl rfl rfl (by decide) rfl (show List.Nodup [500, 505, 506] by decide) (fun r ws' hk hp => ?_)
  obtain ⟨rfl, rfl⟩ := hp
  show J x 3 (ad, 0, 0) (40, [(0, .ref 500), (1, .int (-1)), (2, .int 0)], [], [(500, mO (zp z n)), (502, a14 h), (505, a28 b), (506, a28 (mcp b)), (510, .inr (.inl (0, ps)))])
  refine J.run (sn_X7_run F) 1 [] (S' := (41, [(0, .ref 500), (1, .int (-1)), (2, .int 0)], [.ref 500], [(500, mO (zp z n)), (502, a14 h), (505, a28 b), (506, a28 (mcp b)), (510, .inr (.inl (0, ps)))])) (ob := []) rfl (ob_n) ?_
  refine J.callV F hJ lk_X7_206 im_X7_runs se_X7_runs (by decide +kernel) (c_runs z h (mcp b) ps hps n hnn hn hst) (fun k => k) (by decide) [] rfl rfl rfl rfl rfl (by decide) rfl (show List.Nodup [500, 502, 506, 510] by decide) (fun r ws' hk hp => ?_)
  obtain ⟨rfl, rfl⟩ := hp
  show J x 3 (ad, 0, 0) (44, [(0, .ref 500), (1, .int (-1)), (2, .int 0)], [], [(500, mO (zp z n)), (502, a14 h), (505, a28 b), (506, a28 (mrB h ps (mcp b) n)), (510, .inr (.inl (0, ps)))])
  refine J.run (sn_X7_run F) 10 [1, 0, 25] (S' := (126, [(0, .ref 500), (1, .int (-1)), (2, .int 0)], [.int (mrB h ps (mcp b) n 25)], [(500, mO (zp z n)), (502, a14 h), (505, a28 b), (506, a28 (mrB h ps (mcp b) n)), (510, .inr (.inl (0, ps)))])) (ob := [((-1) : Int32) = (-1), (0 : Int32) = 0, ix 25 25 28]) rfl (ob_c (by decide) (ob_c (by decide) (ob_c (ix_of rfl) ob_n))) ?_
  exact J.iret F hR (Nat.le_refl _) (Nat.le_refl _) rfl rfl (by decide +kernel) ⟨rfl, keq [500, 502, 505, 506, 510] rfl rfl, rfl, rfl⟩
set_option maxHeartbeats 4000000 in
set_option maxRecDepth 100000 in
theorem c_mrun1 (z h b c : Nat → Int32) (ps : List Int32) (hps : ps.length = 30) (n : Nat) (hnn : n ≤ 30) (hn : h 0 ≤ 4) (hst : st5 b) (hM : inB (-1) (-1) (h 0 - 1) = true) : Ctr mk_X7_run 5 [.ref 500, .int (-1), .int 1] [(500, mO (zp z n)), (502, a14 h), (505, a28 b), (506, a28 c), (510, .inr (.inl (0, ps)))] (fun r u => r = some (.int (mrB h ps (mcp b) n 26)) ∧ u = [(500, mO (zp z n)), (502, a14 h), (505, a28 b), (506, a28 (mrB h ps (mcp b) n)), (510, .inr (.inl (0, ps)))]) := by
  refine Ctr.of rfl (Nat.le_of_ble_eq_true rfl) ?_
  intro x ad F hJ hR
  refine J.run (sn_X7_run F) 8 [0] (S' := (10, [(0, .ref 500), (1, .int (-1)), (2, .int 1)], [.int ((h 0) - 1), .int (-1), .int (-1)], [(500, mO (zp z n)), (502, a14 h), (505, a28 b), (506, a28 c), (510, .inr (.inl (0, ps)))])) (ob := [ix 0 0 14]) rfl (ob_c (ix_of rfl) ob_n) ?_
  refine J.callS F hJ lk_X7_66 st_X7_in (by decide +kernel) (c_in (-1) (-1) ((h 0) - 1)) (fun k => k) (by decide) [] rfl rfl rfl (by decide) rfl (show List.Nodup [] by decide) (fun r ws' hk hp => ?_)
  obtain ⟨rfl, rfl⟩ := hp
  show J x 3 (ad, 0, 0) (13, [(0, .ref 500), (1, .int (-1)), (2, .int 1)], [.int (b2i (inB (-1) (-1) ((h 0) - 1)))], [(500, mO (zp z n)), (502, a14 h), (505, a28 b), (506, a28 c), (510, .inr (.inl (0, ps)))])
  rw [hM]
  refine J.run (sn_X7_run F) 7 [1, 0] (S' := (27, [(0, .ref 500), (1, .int (-1)), (2, .int 1)], [.int 3, .int 0, .int 1], [(500, mO (zp z n)), (502, a14 h), (505, a28 b), (506, a28 c), (510, .inr (.inl (0, ps)))])) (ob := [¬ (1 : Int32) = 0, ((-1) : Int32) = (-1)]) rfl (ob_c (by decide) (ob_c (by decide) ob_n)) ?_
  refine J.callS F hJ lk_X7_66 st_X7_in (by decide +kernel) (c_in 1 0 3) (fun k => k) (by decide) [] rfl rfl rfl (by decide) rfl (show List.Nodup [] by decide) (fun r ws' hk hp => ?_)
  obtain ⟨rfl, rfl⟩ := hp
  show J x 3 (ad, 0, 0) (30, [(0, .ref 500), (1, .int (-1)), (2, .int 1)], [.int (b2i (inB 1 0 3))], [(500, mO (zp z n)), (502, a14 h), (505, a28 b), (506, a28 c), (510, .inr (.inl (0, ps)))])
  rw [show inB 1 0 3 = true from by decide]
  refine J.run (sn_X7_run F) 2 [1] (S' := (37, [(0, .ref 500), (1, .int (-1)), (2, .int 1)], [.ref 500], [(500, mO (zp z n)), (502, a14 h), (505, a28 b), (506, a28 c), (510, .inr (.inl (0, ps)))])) (ob := [¬ (1 : Int32) = 0]) rfl (ob_c (by decide) ob_n) ?_
  refine J.callV F hJ lk_X7_183 im_X7_copies se_X7_copies (by decide +kernel) (c_copies (zp z n) b c) (fun k => k) (by decide) [] rfl rfl rfl rfl rfl (by decide) rfl (show List.Nodup [500, 505, 506] by decide) (fun r ws' hk hp => ?_)
  obtain ⟨rfl, rfl⟩ := hp
  show J x 3 (ad, 0, 0) (40, [(0, .ref 500), (1, .int (-1)), (2, .int 1)], [], [(500, mO (zp z n)), (502, a14 h), (505, a28 b), (506, a28 (mcp b)), (510, .inr (.inl (0, ps)))])
  refine J.run (sn_X7_run F) 1 [] (S' := (41, [(0, .ref 500), (1, .int (-1)), (2, .int 1)], [.ref 500], [(500, mO (zp z n)), (502, a14 h), (505, a28 b), (506, a28 (mcp b)), (510, .inr (.inl (0, ps)))])) (ob := []) rfl (ob_n) ?_
  refine J.callV F hJ lk_X7_206 im_X7_runs se_X7_runs (by decide +kernel) (c_runs z h (mcp b) ps hps n hnn hn hst) (fun k => k) (by decide) [] rfl rfl rfl rfl rfl (by decide) rfl (show List.Nodup [500, 502, 506, 510] by decide) (fun r ws' hk hp => ?_)
  obtain ⟨rfl, rfl⟩ := hp
  show J x 3 (ad, 0, 0) (44, [(0, .ref 500), (1, .int (-1)), (2, .int 1)], [], [(500, mO (zp z n)), (502, a14 h), (505, a28 b), (506, a28 (mrB h ps (mcp b) n)), (510, .inr (.inl (0, ps)))])
  refine J.run (sn_X7_run F) 10 [1, 1, 0] (S' := (92, [(0, .ref 500), (1, .int (-1)), (2, .int 1)], [.ref 506], [(500, mO (zp z n)), (502, a14 h), (505, a28 b), (506, a28 (mrB h ps (mcp b) n)), (510, .inr (.inl (0, ps)))])) (ob := [((-1) : Int32) = (-1), ¬ (1 : Int32) = 0, (1 : Int32) = 1]) rfl (ob_c (by decide) (ob_c (by decide) (ob_c (by decide) ob_n))) ?_
  refine J.run (sn_X7_run F) 3 [26] (S' := (126, [(0, .ref 500), (1, .int (-1)), (2, .int 1)], [.int (mrB h ps (mcp b) n 26)], [(500, mO (zp z n)), (502, a14 h), (505, a28 b), (506, a28 (mrB h ps (mcp b) n)), (510, .inr (.inl (0, ps)))])) (ob := [ix 26 26 28]) rfl (ob_c (ix_of rfl) ob_n) ?_
  exact J.iret F hR (Nat.le_refl _) (Nat.le_refl _) rfl rfl (by decide +kernel) ⟨rfl, keq [500, 502, 505, 506, 510] rfl rfl, rfl, rfl⟩
set_option maxHeartbeats 4000000 in
set_option maxRecDepth 100000 in
theorem c_mrun2 (z h b c : Nat → Int32) (ps : List Int32) (hps : ps.length = 30) (n : Nat) (hnn : n ≤ 30) (hn : h 0 ≤ 4) (hst : st5 b) (hM : inB (-1) (-1) (h 0 - 1) = true) : Ctr mk_X7_run 5 [.ref 500, .int (-1), .int 2] [(500, mO (zp z n)), (502, a14 h), (505, a28 b), (506, a28 c), (510, .inr (.inl (0, ps)))] (fun r u => r = some (.int (mrB h ps (mcp b) n 4 - b 4)) ∧ u = [(500, mO (zp z n)), (502, a14 h), (505, a28 b), (506, a28 (mrB h ps (mcp b) n)), (510, .inr (.inl (0, ps)))]) := by
  refine Ctr.of rfl (Nat.le_of_ble_eq_true rfl) ?_
  intro x ad F hJ hR
  refine J.run (sn_X7_run F) 8 [0] (S' := (10, [(0, .ref 500), (1, .int (-1)), (2, .int 2)], [.int ((h 0) - 1), .int (-1), .int (-1)], [(500, mO (zp z n)), (502, a14 h), (505, a28 b), (506, a28 c), (510, .inr (.inl (0, ps)))])) (ob := [ix 0 0 14]) rfl (ob_c (ix_of rfl) ob_n) ?_
  refine J.callS F hJ lk_X7_66 st_X7_in (by decide +kernel) (c_in (-1) (-1) ((h 0) - 1)) (fun k => k) (by decide) [] rfl rfl rfl (by decide) rfl (show List.Nodup [] by decide) (fun r ws' hk hp => ?_)
  obtain ⟨rfl, rfl⟩ := hp
  show J x 3 (ad, 0, 0) (13, [(0, .ref 500), (1, .int (-1)), (2, .int 2)], [.int (b2i (inB (-1) (-1) ((h 0) - 1)))], [(500, mO (zp z n)), (502, a14 h), (505, a28 b), (506, a28 c), (510, .inr (.inl (0, ps)))])
  rw [hM]
  refine J.run (sn_X7_run F) 7 [1, 0] (S' := (27, [(0, .ref 500), (1, .int (-1)), (2, .int 2)], [.int 3, .int 0, .int 2], [(500, mO (zp z n)), (502, a14 h), (505, a28 b), (506, a28 c), (510, .inr (.inl (0, ps)))])) (ob := [¬ (1 : Int32) = 0, ((-1) : Int32) = (-1)]) rfl (ob_c (by decide) (ob_c (by decide) ob_n)) ?_
  refine J.callS F hJ lk_X7_66 st_X7_in (by decide +kernel) (c_in 2 0 3) (fun k => k) (by decide) [] rfl rfl rfl (by decide) rfl (show List.Nodup [] by decide) (fun r ws' hk hp => ?_)
  obtain ⟨rfl, rfl⟩ := hp
  show J x 3 (ad, 0, 0) (30, [(0, .ref 500), (1, .int (-1)), (2, .int 2)], [.int (b2i (inB 2 0 3))], [(500, mO (zp z n)), (502, a14 h), (505, a28 b), (506, a28 c), (510, .inr (.inl (0, ps)))])
  rw [show inB 2 0 3 = true from by decide]
  refine J.run (sn_X7_run F) 2 [1] (S' := (37, [(0, .ref 500), (1, .int (-1)), (2, .int 2)], [.ref 500], [(500, mO (zp z n)), (502, a14 h), (505, a28 b), (506, a28 c), (510, .inr (.inl (0, ps)))])) (ob := [¬ (1 : Int32) = 0]) rfl (ob_c (by decide) ob_n) ?_
  refine J.callV F hJ lk_X7_183 im_X7_copies se_X7_copies (by decide +kernel) (c_copies (zp z n) b c) (fun k => k) (by decide) [] rfl rfl rfl rfl rfl (by decide) rfl (show List.Nodup [500, 505, 506] by decide) (fun r ws' hk hp => ?_)
  obtain ⟨rfl, rfl⟩ := hp
  show J x 3 (ad, 0, 0) (40, [(0, .ref 500), (1, .int (-1)), (2, .int 2)], [], [(500, mO (zp z n)), (502, a14 h), (505, a28 b), (506, a28 (mcp b)), (510, .inr (.inl (0, ps)))])
  refine J.run (sn_X7_run F) 1 [] (S' := (41, [(0, .ref 500), (1, .int (-1)), (2, .int 2)], [.ref 500], [(500, mO (zp z n)), (502, a14 h), (505, a28 b), (506, a28 (mcp b)), (510, .inr (.inl (0, ps)))])) (ob := []) rfl (ob_n) ?_
  refine J.callV F hJ lk_X7_206 im_X7_runs se_X7_runs (by decide +kernel) (c_runs z h (mcp b) ps hps n hnn hn hst) (fun k => k) (by decide) [] rfl rfl rfl rfl rfl (by decide) rfl (show List.Nodup [500, 502, 506, 510] by decide) (fun r ws' hk hp => ?_)
  obtain ⟨rfl, rfl⟩ := hp
  show J x 3 (ad, 0, 0) (44, [(0, .ref 500), (1, .int (-1)), (2, .int 2)], [], [(500, mO (zp z n)), (502, a14 h), (505, a28 b), (506, a28 (mrB h ps (mcp b) n)), (510, .inr (.inl (0, ps)))])
  refine J.run (sn_X7_run F) 10 [1, 1, 1] (S' := (100, [(0, .ref 500), (1, .int (-1)), (2, .int 2)], [.int 2, .int 2], [(500, mO (zp z n)), (502, a14 h), (505, a28 b), (506, a28 (mrB h ps (mcp b) n)), (510, .inr (.inl (0, ps)))])) (ob := [((-1) : Int32) = (-1), ¬ (2 : Int32) = 0, ¬ (2 : Int32) = 1]) rfl (ob_c (by decide) (ob_c (by decide) (ob_c (by decide) ob_n))) ?_
  refine J.run (sn_X7_run F) 10 [0, 4, 4] (S' := (116, [(0, .ref 500), (1, .int (-1)), (2, .int 2)], [.int ((mrB h ps (mcp b) n 4) - (b 4))], [(500, mO (zp z n)), (502, a14 h), (505, a28 b), (506, a28 (mrB h ps (mcp b) n)), (510, .inr (.inl (0, ps)))])) (ob := [(2 : Int32) = 2, ix 4 4 28, ix 4 4 28]) rfl (ob_c (by decide) (ob_c (ix_of rfl) (ob_c (ix_of rfl) ob_n))) ?_
  refine J.run (sn_X7_run F) 1 [] (S' := (126, [(0, .ref 500), (1, .int (-1)), (2, .int 2)], [.int ((mrB h ps (mcp b) n 4) - (b 4))], [(500, mO (zp z n)), (502, a14 h), (505, a28 b), (506, a28 (mrB h ps (mcp b) n)), (510, .inr (.inl (0, ps)))])) (ob := []) rfl (ob_n) ?_
  exact J.iret F hR (Nat.le_refl _) (Nat.le_refl _) rfl rfl (by decide +kernel) ⟨rfl, keq [500, 502, 505, 506, 510] rfl rfl, rfl, rfl⟩
set_option maxHeartbeats 4000000 in
set_option maxRecDepth 100000 in
theorem c_mrun3 (z h b c : Nat → Int32) (ps : List Int32) (hps : ps.length = 30) (n : Nat) (hnn : n ≤ 30) (hn : h 0 ≤ 4) (hst : st5 b) (hM : inB (-1) (-1) (h 0 - 1) = true) : Ctr mk_X7_run 5 [.ref 500, .int (-1), .int 3] [(500, mO (zp z n)), (502, a14 h), (505, a28 b), (506, a28 c), (510, .inr (.inl (0, ps)))] (fun r u => r = some (.int (mrB h ps (mcp b) n 27)) ∧ u = [(500, mO (zp z n)), (502, a14 h), (505, a28 b), (506, a28 (mrB h ps (mcp b) n)), (510, .inr (.inl (0, ps)))]) := by
  refine Ctr.of rfl (Nat.le_of_ble_eq_true rfl) ?_
  intro x ad F hJ hR
  refine J.run (sn_X7_run F) 8 [0] (S' := (10, [(0, .ref 500), (1, .int (-1)), (2, .int 3)], [.int ((h 0) - 1), .int (-1), .int (-1)], [(500, mO (zp z n)), (502, a14 h), (505, a28 b), (506, a28 c), (510, .inr (.inl (0, ps)))])) (ob := [ix 0 0 14]) rfl (ob_c (ix_of rfl) ob_n) ?_
  refine J.callS F hJ lk_X7_66 st_X7_in (by decide +kernel) (c_in (-1) (-1) ((h 0) - 1)) (fun k => k) (by decide) [] rfl rfl rfl (by decide) rfl (show List.Nodup [] by decide) (fun r ws' hk hp => ?_)
  obtain ⟨rfl, rfl⟩ := hp
  show J x 3 (ad, 0, 0) (13, [(0, .ref 500), (1, .int (-1)), (2, .int 3)], [.int (b2i (inB (-1) (-1) ((h 0) - 1)))], [(500, mO (zp z n)), (502, a14 h), (505, a28 b), (506, a28 c), (510, .inr (.inl (0, ps)))])
  rw [hM]
  refine J.run (sn_X7_run F) 7 [1, 0] (S' := (27, [(0, .ref 500), (1, .int (-1)), (2, .int 3)], [.int 3, .int 0, .int 3], [(500, mO (zp z n)), (502, a14 h), (505, a28 b), (506, a28 c), (510, .inr (.inl (0, ps)))])) (ob := [¬ (1 : Int32) = 0, ((-1) : Int32) = (-1)]) rfl (ob_c (by decide) (ob_c (by decide) ob_n)) ?_
  refine J.callS F hJ lk_X7_66 st_X7_in (by decide +kernel) (c_in 3 0 3) (fun k => k) (by decide) [] rfl rfl rfl (by decide) rfl (show List.Nodup [] by decide) (fun r ws' hk hp => ?_)
  obtain ⟨rfl, rfl⟩ := hp
  show J x 3 (ad, 0, 0) (30, [(0, .ref 500), (1, .int (-1)), (2, .int 3)], [.int (b2i (inB 3 0 3))], [(500, mO (zp z n)), (502, a14 h), (505, a28 b), (506, a28 c), (510, .inr (.inl (0, ps)))])
  rw [show inB 3 0 3 = true from by decide]
  refine J.run (sn_X7_run F) 2 [1] (S' := (37, [(0, .ref 500), (1, .int (-1)), (2, .int 3)], [.ref 500], [(500, mO (zp z n)), (502, a14 h), (505, a28 b), (506, a28 c), (510, .inr (.inl (0, ps)))])) (ob := [¬ (1 : Int32) = 0]) rfl (ob_c (by decide) ob_n) ?_
  refine J.callV F hJ lk_X7_183 im_X7_copies se_X7_copies (by decide +kernel) (c_copies (zp z n) b c) (fun k => k) (by decide) [] rfl rfl rfl rfl rfl (by decide) rfl (show List.Nodup [500, 505, 506] by decide) (fun r ws' hk hp => ?_)
  obtain ⟨rfl, rfl⟩ := hp
  show J x 3 (ad, 0, 0) (40, [(0, .ref 500), (1, .int (-1)), (2, .int 3)], [], [(500, mO (zp z n)), (502, a14 h), (505, a28 b), (506, a28 (mcp b)), (510, .inr (.inl (0, ps)))])
  refine J.run (sn_X7_run F) 1 [] (S' := (41, [(0, .ref 500), (1, .int (-1)), (2, .int 3)], [.ref 500], [(500, mO (zp z n)), (502, a14 h), (505, a28 b), (506, a28 (mcp b)), (510, .inr (.inl (0, ps)))])) (ob := []) rfl (ob_n) ?_
  refine J.callV F hJ lk_X7_206 im_X7_runs se_X7_runs (by decide +kernel) (c_runs z h (mcp b) ps hps n hnn hn hst) (fun k => k) (by decide) [] rfl rfl rfl rfl rfl (by decide) rfl (show List.Nodup [500, 502, 506, 510] by decide) (fun r ws' hk hp => ?_)
  obtain ⟨rfl, rfl⟩ := hp
  show J x 3 (ad, 0, 0) (44, [(0, .ref 500), (1, .int (-1)), (2, .int 3)], [], [(500, mO (zp z n)), (502, a14 h), (505, a28 b), (506, a28 (mrB h ps (mcp b) n)), (510, .inr (.inl (0, ps)))])
  refine J.run (sn_X7_run F) 10 [1, 1, 1] (S' := (100, [(0, .ref 500), (1, .int (-1)), (2, .int 3)], [.int 2, .int 3], [(500, mO (zp z n)), (502, a14 h), (505, a28 b), (506, a28 (mrB h ps (mcp b) n)), (510, .inr (.inl (0, ps)))])) (ob := [((-1) : Int32) = (-1), ¬ (3 : Int32) = 0, ¬ (3 : Int32) = 1]) rfl (ob_c (by decide) (ob_c (by decide) (ob_c (by decide) ob_n))) ?_
  refine J.run (sn_X7_run F) 5 [1, 27] (S' := (126, [(0, .ref 500), (1, .int (-1)), (2, .int 3)], [.int (mrB h ps (mcp b) n 27)], [(500, mO (zp z n)), (502, a14 h), (505, a28 b), (506, a28 (mrB h ps (mcp b) n)), (510, .inr (.inl (0, ps)))])) (ob := [¬ (3 : Int32) = 2, ix 27 27 28]) rfl (ob_c (by decide) (ob_c (ix_of rfl) ob_n)) ?_
  exact J.iret F hR (Nat.le_refl _) (Nat.le_refl _) rfl rfl (by decide +kernel) ⟨rfl, keq [500, 502, 505, 506, 510] rfl rfl, rfl, rfl⟩
set_option maxHeartbeats 4000000 in
set_option maxRecDepth 100000 in
theorem c_mrunM0 (z h b c : Nat → Int32) (ps : List Int32) (hps : ps.length = 30) (n : Nat) (hnn : n ≤ 30) (hn : h 0 ≤ 4) (hst : st5 b) (w : Int32) (hM : inB 0 (-1) (h 0 - 1) = true) : Ctr mk_X7_run 5 [.ref 500, .int 0, .int w] [(500, mO (zp z n)), (502, a14 h), (505, a28 b), (506, a28 c), (510, .inr (.inl (0, ps)))] (fun r u => r = some (.int (mrB h ps (mcp b) n 21 - b 21)) ∧ u = [(500, mO (zp z n)), (502, a14 h), (505, a28 b), (506, a28 (mrB h ps (mcp b) n)), (510, .inr (.inl (0, ps)))]) := by
  refine Ctr.of rfl (Nat.le_of_ble_eq_true rfl) ?_
  intro x ad F hJ hR
  refine J.run (sn_X7_run F) 8 [0] (S' := (10, [(0, .ref 500), (1, .int 0), (2, .int w)], [.int ((h 0) - 1), .int (-1), .int 0], [(500, mO (zp z n)), (502, a14 h), (505, a28 b), (506, a28 c), (510, .inr (.inl (0, ps)))])) (ob := [ix 0 0 14]) rfl (ob_c (ix_of rfl) ob_n) ?_
  refine J.callS F hJ lk_X7_66 st_X7_in (by decide +kernel) (c_in 0 (-1) ((h 0) - 1)) (fun k => k) (by decide) [] rfl rfl rfl (by decide) rfl (show List.Nodup [] by decide) (fun r ws' hk hp => ?_)
  obtain ⟨rfl, rfl⟩ := hp
  show J x 3 (ad, 0, 0) (13, [(0, .ref 500), (1, .int 0), (2, .int w)], [.int (b2i (inB 0 (-1) ((h 0) - 1)))], [(500, mO (zp z n)), (502, a14 h), (505, a28 b), (506, a28 c), (510, .inr (.inl (0, ps)))])
  rw [hM]
  refine J.run (sn_X7_run F) 5 [1, 1] (S' := (37, [(0, .ref 500), (1, .int 0), (2, .int w)], [.ref 500], [(500, mO (zp z n)), (502, a14 h), (505, a28 b), (506, a28 c), (510, .inr (.inl (0, ps)))])) (ob := [¬ (1 : Int32) = 0, ¬ (0 : Int32) = (-1)]) rfl (ob_c (by decide) (ob_c (by decide) ob_n)) ?_
  refine J.callV F hJ lk_X7_183 im_X7_copies se_X7_copies (by decide +kernel) (c_copies (zp z n) b c) (fun k => k) (by decide) [] rfl rfl rfl rfl rfl (by decide) rfl (show List.Nodup [500, 505, 506] by decide) (fun r ws' hk hp => ?_)
  obtain ⟨rfl, rfl⟩ := hp
  show J x 3 (ad, 0, 0) (40, [(0, .ref 500), (1, .int 0), (2, .int w)], [], [(500, mO (zp z n)), (502, a14 h), (505, a28 b), (506, a28 (mcp b)), (510, .inr (.inl (0, ps)))])
  refine J.run (sn_X7_run F) 1 [] (S' := (41, [(0, .ref 500), (1, .int 0), (2, .int w)], [.ref 500], [(500, mO (zp z n)), (502, a14 h), (505, a28 b), (506, a28 (mcp b)), (510, .inr (.inl (0, ps)))])) (ob := []) rfl (ob_n) ?_
  refine J.callV F hJ lk_X7_206 im_X7_runs se_X7_runs (by decide +kernel) (c_runs z h (mcp b) ps hps n hnn hn hst) (fun k => k) (by decide) [] rfl rfl rfl rfl rfl (by decide) rfl (show List.Nodup [500, 502, 506, 510] by decide) (fun r ws' hk hp => ?_)
  obtain ⟨rfl, rfl⟩ := hp
  show J x 3 (ad, 0, 0) (44, [(0, .ref 500), (1, .int 0), (2, .int w)], [], [(500, mO (zp z n)), (502, a14 h), (505, a28 b), (506, a28 (mrB h ps (mcp b) n)), (510, .inr (.inl (0, ps)))])
  refine J.run (sn_X7_run F) 10 [0, 21] (S' := (59, [(0, .ref 500), (1, .int 0), (2, .int w)], [.ref 500, .int (mrB h ps (mcp b) n 21)], [(500, mO (zp z n)), (502, a14 h), (505, a28 b), (506, a28 (mrB h ps (mcp b) n)), (510, .inr (.inl (0, ps)))])) (ob := [¬ (0 : Int32) = (-1), ix 21 21 28]) rfl (ob_c (by decide) (ob_c (ix_of rfl) ob_n)) ?_
  refine J.run (sn_X7_run F) 6 [21] (S' := (68, [(0, .ref 500), (1, .int 0), (2, .int w)], [.int ((mrB h ps (mcp b) n 21) - (b 21))], [(500, mO (zp z n)), (502, a14 h), (505, a28 b), (506, a28 (mrB h ps (mcp b) n)), (510, .inr (.inl (0, ps)))])) (ob := [ix 21 21 28]) rfl (ob_c (ix_of rfl) ob_n) ?_
  exact J.iret F hR (Nat.le_refl _) (Nat.le_refl _) rfl rfl (by decide +kernel) ⟨rfl, keq [500, 502, 505, 506, 510] rfl rfl, rfl, rfl⟩
set_option maxHeartbeats 4000000 in
set_option maxRecDepth 100000 in
theorem c_mrunM1 (z h b c : Nat → Int32) (ps : List Int32) (hps : ps.length = 30) (n : Nat) (hnn : n ≤ 30) (hn : h 0 ≤ 4) (hst : st5 b) (w : Int32) (hM : inB 1 (-1) (h 0 - 1) = true) : Ctr mk_X7_run 5 [.ref 500, .int 1, .int w] [(500, mO (zp z n)), (502, a14 h), (505, a28 b), (506, a28 c), (510, .inr (.inl (0, ps)))] (fun r u => r = some (.int (mrB h ps (mcp b) n 22 - b 22)) ∧ u = [(500, mO (zp z n)), (502, a14 h), (505, a28 b), (506, a28 (mrB h ps (mcp b) n)), (510, .inr (.inl (0, ps)))]) := by
  refine Ctr.of rfl (Nat.le_of_ble_eq_true rfl) ?_
  intro x ad F hJ hR
  refine J.run (sn_X7_run F) 8 [0] (S' := (10, [(0, .ref 500), (1, .int 1), (2, .int w)], [.int ((h 0) - 1), .int (-1), .int 1], [(500, mO (zp z n)), (502, a14 h), (505, a28 b), (506, a28 c), (510, .inr (.inl (0, ps)))])) (ob := [ix 0 0 14]) rfl (ob_c (ix_of rfl) ob_n) ?_
  refine J.callS F hJ lk_X7_66 st_X7_in (by decide +kernel) (c_in 1 (-1) ((h 0) - 1)) (fun k => k) (by decide) [] rfl rfl rfl (by decide) rfl (show List.Nodup [] by decide) (fun r ws' hk hp => ?_)
  obtain ⟨rfl, rfl⟩ := hp
  show J x 3 (ad, 0, 0) (13, [(0, .ref 500), (1, .int 1), (2, .int w)], [.int (b2i (inB 1 (-1) ((h 0) - 1)))], [(500, mO (zp z n)), (502, a14 h), (505, a28 b), (506, a28 c), (510, .inr (.inl (0, ps)))])
  rw [hM]
  refine J.run (sn_X7_run F) 5 [1, 1] (S' := (37, [(0, .ref 500), (1, .int 1), (2, .int w)], [.ref 500], [(500, mO (zp z n)), (502, a14 h), (505, a28 b), (506, a28 c), (510, .inr (.inl (0, ps)))])) (ob := [¬ (1 : Int32) = 0, ¬ (1 : Int32) = (-1)]) rfl (ob_c (by decide) (ob_c (by decide) ob_n)) ?_
  refine J.callV F hJ lk_X7_183 im_X7_copies se_X7_copies (by decide +kernel) (c_copies (zp z n) b c) (fun k => k) (by decide) [] rfl rfl rfl rfl rfl (by decide) rfl (show List.Nodup [500, 505, 506] by decide) (fun r ws' hk hp => ?_)
  obtain ⟨rfl, rfl⟩ := hp
  show J x 3 (ad, 0, 0) (40, [(0, .ref 500), (1, .int 1), (2, .int w)], [], [(500, mO (zp z n)), (502, a14 h), (505, a28 b), (506, a28 (mcp b)), (510, .inr (.inl (0, ps)))])
  refine J.run (sn_X7_run F) 1 [] (S' := (41, [(0, .ref 500), (1, .int 1), (2, .int w)], [.ref 500], [(500, mO (zp z n)), (502, a14 h), (505, a28 b), (506, a28 (mcp b)), (510, .inr (.inl (0, ps)))])) (ob := []) rfl (ob_n) ?_
  refine J.callV F hJ lk_X7_206 im_X7_runs se_X7_runs (by decide +kernel) (c_runs z h (mcp b) ps hps n hnn hn hst) (fun k => k) (by decide) [] rfl rfl rfl rfl rfl (by decide) rfl (show List.Nodup [500, 502, 506, 510] by decide) (fun r ws' hk hp => ?_)
  obtain ⟨rfl, rfl⟩ := hp
  show J x 3 (ad, 0, 0) (44, [(0, .ref 500), (1, .int 1), (2, .int w)], [], [(500, mO (zp z n)), (502, a14 h), (505, a28 b), (506, a28 (mrB h ps (mcp b) n)), (510, .inr (.inl (0, ps)))])
  refine J.run (sn_X7_run F) 10 [0, 22] (S' := (59, [(0, .ref 500), (1, .int 1), (2, .int w)], [.ref 500, .int (mrB h ps (mcp b) n 22)], [(500, mO (zp z n)), (502, a14 h), (505, a28 b), (506, a28 (mrB h ps (mcp b) n)), (510, .inr (.inl (0, ps)))])) (ob := [¬ (1 : Int32) = (-1), ix 22 22 28]) rfl (ob_c (by decide) (ob_c (ix_of rfl) ob_n)) ?_
  refine J.run (sn_X7_run F) 6 [22] (S' := (68, [(0, .ref 500), (1, .int 1), (2, .int w)], [.int ((mrB h ps (mcp b) n 22) - (b 22))], [(500, mO (zp z n)), (502, a14 h), (505, a28 b), (506, a28 (mrB h ps (mcp b) n)), (510, .inr (.inl (0, ps)))])) (ob := [ix 22 22 28]) rfl (ob_c (ix_of rfl) ob_n) ?_
  exact J.iret F hR (Nat.le_refl _) (Nat.le_refl _) rfl rfl (by decide +kernel) ⟨rfl, keq [500, 502, 505, 506, 510] rfl rfl, rfl, rfl⟩
set_option maxHeartbeats 4000000 in
set_option maxRecDepth 100000 in
theorem c_mrunM2 (z h b c : Nat → Int32) (ps : List Int32) (hps : ps.length = 30) (n : Nat) (hnn : n ≤ 30) (hn : h 0 ≤ 4) (hst : st5 b) (w : Int32) (hM : inB 2 (-1) (h 0 - 1) = true) : Ctr mk_X7_run 5 [.ref 500, .int 2, .int w] [(500, mO (zp z n)), (502, a14 h), (505, a28 b), (506, a28 c), (510, .inr (.inl (0, ps)))] (fun r u => r = some (.int (mrB h ps (mcp b) n 23 - b 23)) ∧ u = [(500, mO (zp z n)), (502, a14 h), (505, a28 b), (506, a28 (mrB h ps (mcp b) n)), (510, .inr (.inl (0, ps)))]) := by
  refine Ctr.of rfl (Nat.le_of_ble_eq_true rfl) ?_
  intro x ad F hJ hR
  refine J.run (sn_X7_run F) 8 [0] (S' := (10, [(0, .ref 500), (1, .int 2), (2, .int w)], [.int ((h 0) - 1), .int (-1), .int 2], [(500, mO (zp z n)), (502, a14 h), (505, a28 b), (506, a28 c), (510, .inr (.inl (0, ps)))])) (ob := [ix 0 0 14]) rfl (ob_c (ix_of rfl) ob_n) ?_
  refine J.callS F hJ lk_X7_66 st_X7_in (by decide +kernel) (c_in 2 (-1) ((h 0) - 1)) (fun k => k) (by decide) [] rfl rfl rfl (by decide) rfl (show List.Nodup [] by decide) (fun r ws' hk hp => ?_)
  obtain ⟨rfl, rfl⟩ := hp
  show J x 3 (ad, 0, 0) (13, [(0, .ref 500), (1, .int 2), (2, .int w)], [.int (b2i (inB 2 (-1) ((h 0) - 1)))], [(500, mO (zp z n)), (502, a14 h), (505, a28 b), (506, a28 c), (510, .inr (.inl (0, ps)))])
  rw [hM]
  refine J.run (sn_X7_run F) 5 [1, 1] (S' := (37, [(0, .ref 500), (1, .int 2), (2, .int w)], [.ref 500], [(500, mO (zp z n)), (502, a14 h), (505, a28 b), (506, a28 c), (510, .inr (.inl (0, ps)))])) (ob := [¬ (1 : Int32) = 0, ¬ (2 : Int32) = (-1)]) rfl (ob_c (by decide) (ob_c (by decide) ob_n)) ?_
  refine J.callV F hJ lk_X7_183 im_X7_copies se_X7_copies (by decide +kernel) (c_copies (zp z n) b c) (fun k => k) (by decide) [] rfl rfl rfl rfl rfl (by decide) rfl (show List.Nodup [500, 505, 506] by decide) (fun r ws' hk hp => ?_)
  obtain ⟨rfl, rfl⟩ := hp
  show J x 3 (ad, 0, 0) (40, [(0, .ref 500), (1, .int 2), (2, .int w)], [], [(500, mO (zp z n)), (502, a14 h), (505, a28 b), (506, a28 (mcp b)), (510, .inr (.inl (0, ps)))])
  refine J.run (sn_X7_run F) 1 [] (S' := (41, [(0, .ref 500), (1, .int 2), (2, .int w)], [.ref 500], [(500, mO (zp z n)), (502, a14 h), (505, a28 b), (506, a28 (mcp b)), (510, .inr (.inl (0, ps)))])) (ob := []) rfl (ob_n) ?_
  refine J.callV F hJ lk_X7_206 im_X7_runs se_X7_runs (by decide +kernel) (c_runs z h (mcp b) ps hps n hnn hn hst) (fun k => k) (by decide) [] rfl rfl rfl rfl rfl (by decide) rfl (show List.Nodup [500, 502, 506, 510] by decide) (fun r ws' hk hp => ?_)
  obtain ⟨rfl, rfl⟩ := hp
  show J x 3 (ad, 0, 0) (44, [(0, .ref 500), (1, .int 2), (2, .int w)], [], [(500, mO (zp z n)), (502, a14 h), (505, a28 b), (506, a28 (mrB h ps (mcp b) n)), (510, .inr (.inl (0, ps)))])
  refine J.run (sn_X7_run F) 10 [0, 23] (S' := (59, [(0, .ref 500), (1, .int 2), (2, .int w)], [.ref 500, .int (mrB h ps (mcp b) n 23)], [(500, mO (zp z n)), (502, a14 h), (505, a28 b), (506, a28 (mrB h ps (mcp b) n)), (510, .inr (.inl (0, ps)))])) (ob := [¬ (2 : Int32) = (-1), ix 23 23 28]) rfl (ob_c (by decide) (ob_c (ix_of rfl) ob_n)) ?_
  refine J.run (sn_X7_run F) 6 [23] (S' := (68, [(0, .ref 500), (1, .int 2), (2, .int w)], [.int ((mrB h ps (mcp b) n 23) - (b 23))], [(500, mO (zp z n)), (502, a14 h), (505, a28 b), (506, a28 (mrB h ps (mcp b) n)), (510, .inr (.inl (0, ps)))])) (ob := [ix 23 23 28]) rfl (ob_c (ix_of rfl) ob_n) ?_
  exact J.iret F hR (Nat.le_refl _) (Nat.le_refl _) rfl rfl (by decide +kernel) ⟨rfl, keq [500, 502, 505, 506, 510] rfl rfl, rfl, rfl⟩
set_option maxHeartbeats 4000000 in
set_option maxRecDepth 100000 in
theorem c_mrunM3 (z h b c : Nat → Int32) (ps : List Int32) (hps : ps.length = 30) (n : Nat) (hnn : n ≤ 30) (hn : h 0 ≤ 4) (hst : st5 b) (w : Int32) (hM : inB 3 (-1) (h 0 - 1) = true) : Ctr mk_X7_run 5 [.ref 500, .int 3, .int w] [(500, mO (zp z n)), (502, a14 h), (505, a28 b), (506, a28 c), (510, .inr (.inl (0, ps)))] (fun r u => r = some (.int (mrB h ps (mcp b) n 24 - b 24)) ∧ u = [(500, mO (zp z n)), (502, a14 h), (505, a28 b), (506, a28 (mrB h ps (mcp b) n)), (510, .inr (.inl (0, ps)))]) := by
  refine Ctr.of rfl (Nat.le_of_ble_eq_true rfl) ?_
  intro x ad F hJ hR
  refine J.run (sn_X7_run F) 8 [0] (S' := (10, [(0, .ref 500), (1, .int 3), (2, .int w)], [.int ((h 0) - 1), .int (-1), .int 3], [(500, mO (zp z n)), (502, a14 h), (505, a28 b), (506, a28 c), (510, .inr (.inl (0, ps)))])) (ob := [ix 0 0 14]) rfl (ob_c (ix_of rfl) ob_n) ?_
  refine J.callS F hJ lk_X7_66 st_X7_in (by decide +kernel) (c_in 3 (-1) ((h 0) - 1)) (fun k => k) (by decide) [] rfl rfl rfl (by decide) rfl (show List.Nodup [] by decide) (fun r ws' hk hp => ?_)
  obtain ⟨rfl, rfl⟩ := hp
  show J x 3 (ad, 0, 0) (13, [(0, .ref 500), (1, .int 3), (2, .int w)], [.int (b2i (inB 3 (-1) ((h 0) - 1)))], [(500, mO (zp z n)), (502, a14 h), (505, a28 b), (506, a28 c), (510, .inr (.inl (0, ps)))])
  rw [hM]
  refine J.run (sn_X7_run F) 5 [1, 1] (S' := (37, [(0, .ref 500), (1, .int 3), (2, .int w)], [.ref 500], [(500, mO (zp z n)), (502, a14 h), (505, a28 b), (506, a28 c), (510, .inr (.inl (0, ps)))])) (ob := [¬ (1 : Int32) = 0, ¬ (3 : Int32) = (-1)]) rfl (ob_c (by decide) (ob_c (by decide) ob_n)) ?_
  refine J.callV F hJ lk_X7_183 im_X7_copies se_X7_copies (by decide +kernel) (c_copies (zp z n) b c) (fun k => k) (by decide) [] rfl rfl rfl rfl rfl (by decide) rfl (show List.Nodup [500, 505, 506] by decide) (fun r ws' hk hp => ?_)
  obtain ⟨rfl, rfl⟩ := hp
  show J x 3 (ad, 0, 0) (40, [(0, .ref 500), (1, .int 3), (2, .int w)], [], [(500, mO (zp z n)), (502, a14 h), (505, a28 b), (506, a28 (mcp b)), (510, .inr (.inl (0, ps)))])
  refine J.run (sn_X7_run F) 1 [] (S' := (41, [(0, .ref 500), (1, .int 3), (2, .int w)], [.ref 500], [(500, mO (zp z n)), (502, a14 h), (505, a28 b), (506, a28 (mcp b)), (510, .inr (.inl (0, ps)))])) (ob := []) rfl (ob_n) ?_
  refine J.callV F hJ lk_X7_206 im_X7_runs se_X7_runs (by decide +kernel) (c_runs z h (mcp b) ps hps n hnn hn hst) (fun k => k) (by decide) [] rfl rfl rfl rfl rfl (by decide) rfl (show List.Nodup [500, 502, 506, 510] by decide) (fun r ws' hk hp => ?_)
  obtain ⟨rfl, rfl⟩ := hp
  show J x 3 (ad, 0, 0) (44, [(0, .ref 500), (1, .int 3), (2, .int w)], [], [(500, mO (zp z n)), (502, a14 h), (505, a28 b), (506, a28 (mrB h ps (mcp b) n)), (510, .inr (.inl (0, ps)))])
  refine J.run (sn_X7_run F) 10 [0, 24] (S' := (59, [(0, .ref 500), (1, .int 3), (2, .int w)], [.ref 500, .int (mrB h ps (mcp b) n 24)], [(500, mO (zp z n)), (502, a14 h), (505, a28 b), (506, a28 (mrB h ps (mcp b) n)), (510, .inr (.inl (0, ps)))])) (ob := [¬ (3 : Int32) = (-1), ix 24 24 28]) rfl (ob_c (by decide) (ob_c (ix_of rfl) ob_n)) ?_
  refine J.run (sn_X7_run F) 6 [24] (S' := (68, [(0, .ref 500), (1, .int 3), (2, .int w)], [.int ((mrB h ps (mcp b) n 24) - (b 24))], [(500, mO (zp z n)), (502, a14 h), (505, a28 b), (506, a28 (mrB h ps (mcp b) n)), (510, .inr (.inl (0, ps)))])) (ob := [ix 24 24 28]) rfl (ob_c (ix_of rfl) ob_n) ?_
  exact J.iret F hR (Nat.le_refl _) (Nat.le_refl _) rfl rfl (by decide +kernel) ⟨rfl, keq [500, 502, 505, 506, 510] rfl rfl, rfl, rfl⟩
