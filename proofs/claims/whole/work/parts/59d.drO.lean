set_option maxHeartbeats 4000000 in
set_option maxRecDepth 100000 in
theorem c_mdriftO (z h b c : Nat → Int32) (n : Int32) (hN : inB n 1 999 = false) : Ctr mk_X7_drift 5 [.ref 500, .int n] [(500, mO z), (502, a14 h), (505, a28 b), (506, a28 c)] (fun r u => r = some (.int (-1000000002)) ∧ u = [(500, mO z), (502, a14 h), (505, a28 b), (506, a28 c)]) := by
  refine Ctr.of rfl (Nat.le_of_ble_eq_true rfl) ?_
  intro x ad F hJ hR
  refine J.run (sn_X7_drift F) 3 [] (S' := (5, [(0, .ref 500), (1, .int n)], [.int 999, .int 1, .int n], [(500, mO z), (502, a14 h), (505, a28 b), (506, a28 c)])) (ob := []) rfl (ob_n) ?_
  refine J.callS F hJ lk_X7_66 st_X7_in (by decide +kernel) (c_in n 1 999) (fun k => k) (by decide) [] rfl rfl rfl (by decide +kernel) rfl (show List.Nodup [] by decide +kernel) (fun r ws' hk hp => ?_)
  obtain ⟨rfl, rfl⟩ := hp
  show J x 7 (ad, 0, 0) (8, [(0, .ref 500), (1, .int n)], [.int (b2i (inB n 1 999))], [(500, mO z), (502, a14 h), (505, a28 b), (506, a28 c)])
  rw [hN]
  refine J.run (sn_X7_drift F) 2 [0] (S' := (13, [(0, .ref 500), (1, .int n)], [.int (-1000000002)], [(500, mO z), (502, a14 h), (505, a28 b), (506, a28 c)])) (ob := [(0 : Int32) = 0]) rfl (ob_c (by decide) ob_n) ?_
  exact J.iret F hR (Nat.le_refl _) (Nat.le_refl _) rfl rfl (by decide +kernel) ⟨rfl, keq [500, 502, 505, 506] rfl rfl, rfl, rfl⟩
set_option maxHeartbeats 4000000 in
set_option maxRecDepth 100000 in
theorem c_mdriftN (z h b c : Nat → Int32) (n : Int32) (hN : inB n 1 999 = true) (hz : h 0 = 0) : Ctr mk_X7_drift 5 [.ref 500, .int n] [(500, mO z), (502, a14 h), (505, a28 b), (506, a28 c)] (fun r u => r = some (.int (-1000000003)) ∧ u = [(500, mO z), (502, a14 h), (505, a28 b), (506, a28 c)]) := by
  refine Ctr.of rfl (Nat.le_of_ble_eq_true rfl) ?_
  intro x ad F hJ hR
  refine J.run (sn_X7_drift F) 3 [] (S' := (5, [(0, .ref 500), (1, .int n)], [.int 999, .int 1, .int n], [(500, mO z), (502, a14 h), (505, a28 b), (506, a28 c)])) (ob := []) rfl (ob_n) ?_
  refine J.callS F hJ lk_X7_66 st_X7_in (by decide +kernel) (c_in n 1 999) (fun k => k) (by decide) [] rfl rfl rfl (by decide +kernel) rfl (show List.Nodup [] by decide +kernel) (fun r ws' hk hp => ?_)
  obtain ⟨rfl, rfl⟩ := hp
  show J x 7 (ad, 0, 0) (8, [(0, .ref 500), (1, .int n)], [.int (b2i (inB n 1 999))], [(500, mO z), (502, a14 h), (505, a28 b), (506, a28 c)])
  rw [hN]
  refine J.run (sn_X7_drift F) 7 [1, 0, 0] (S' := (25, [(0, .ref 500), (1, .int n)], [.int (-1000000003)], [(500, mO z), (502, a14 h), (505, a28 b), (506, a28 c)])) (ob := [¬ (1 : Int32) = 0, ix 0 0 14, (h 0) = 0]) rfl (ob_c (by decide) (ob_c (ix_of rfl) (ob_c hz ob_n))) ?_
  exact J.iret F hR (Nat.le_refl _) (Nat.le_refl _) rfl rfl (by decide +kernel) ⟨rfl, keq [500, 502, 505, 506] rfl rfl, rfl, rfl⟩
