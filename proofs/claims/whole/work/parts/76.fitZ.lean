set_option maxHeartbeats 4000000 in
set_option maxRecDepth 100000 in
theorem c_mfitsZ (z h b c' : Nat → Int32) (gs ls : List Int32) (c : Nat) (hc : c ≤ 7) (hz : z 14 = nI c) (hW0 : mwy (h 0) c = 0) : Ctr mk_X7_fits 5 [.ref 500] [(500, mO z), (502, a14 h), (505, a28 b), (506, a28 c'), (511, .inr (.inl (0, gs))), (512, .inr (.inl (0, ls)))] (fun r u => r = some (.int 0) ∧ u = [(500, mO z), (502, a14 h), (505, a28 b), (506, a28 c'), (511, .inr (.inl (0, gs))), (512, .inr (.inl (0, ls)))]) := by
  refine Ctr.of rfl (Nat.le_of_ble_eq_true rfl) ?_
  intro x ad F hJ hR
  refine J.run (sn_X7_fits F) 6 [] (S' := (6, [(0, .ref 500), (1, .int 0), (2, .int 0)], [.ref 500, .int 0], [(500, mO z), (502, a14 h), (505, a28 b), (506, a28 c'), (511, .inr (.inl (0, gs))), (512, .inr (.inl (0, ls)))])) (ob := []) rfl (ob_n) ?_
  refine J.callV F hJ lk_X7_234 im_X7_ways se_X7_ways (by decide +kernel) (c_ways z h c hc hz) (fun k => k) (by decide) [.int 0] rfl rfl rfl rfl rfl (by decide +kernel) rfl (show List.Nodup [500, 502] by decide +kernel) (fun r ws' hk hp => ?_)
  obtain ⟨rfl, rfl⟩ := hp
  show J x 3 (ad, 0, 0) (9, [(0, .ref 500), (1, .int 0), (2, .int 0)], [.int (mwy (h 0) c), .int 0], [(500, mO z), (502, a14 h), (505, a28 b), (506, a28 c'), (511, .inr (.inl (0, gs))), (512, .inr (.inl (0, ls)))])
  rw [hW0]
  refine J.run (sn_X7_fits F) 2 [1] (S' := (35, [(0, .ref 500), (1, .int 0), (2, .int 0)], [.int 0], [(500, mO z), (502, a14 h), (505, a28 b), (506, a28 c'), (511, .inr (.inl (0, gs))), (512, .inr (.inl (0, ls)))])) (ob := [0 ≤ (0 : Int32)]) rfl (ob_c (by decide) ob_n) ?_
  exact J.iret F hR (Nat.le_refl _) (Nat.le_refl _) rfl rfl (by decide +kernel) ⟨rfl, keq [500, 502, 505, 506, 511, 512] rfl rfl, rfl, rfl⟩
set_option maxHeartbeats 4000000 in
set_option maxRecDepth 100000 in
theorem c_msureZ (z h b c' : Nat → Int32) (gs ls : List Int32) (c : Nat) (hc : c ≤ 7) (hz : z 14 = nI c) (hW0 : mwy (h 0) c = 0) (i0 : Int32) (hI : inB i0 0 (z 14 - 1) = true) : Ctr mk_X7_sure 5 [.ref 500, .int i0] [(500, mO z), (502, a14 h), (505, a28 b), (506, a28 c'), (511, .inr (.inl (0, gs))), (512, .inr (.inl (0, ls)))] (fun r u => r = some (.int (-1)) ∧ u = [(500, mO z), (502, a14 h), (505, a28 b), (506, a28 c'), (511, .inr (.inl (0, gs))), (512, .inr (.inl (0, ls)))]) := by
  refine Ctr.of rfl (Nat.le_of_ble_eq_true rfl) ?_
  intro x ad F hJ hR
  refine J.run (sn_X7_sure F) 6 [] (S' := (8, [(0, .ref 500), (1, .int i0)], [.int ((z 14) - 1), .int 0, .int i0], [(500, mO z), (502, a14 h), (505, a28 b), (506, a28 c'), (511, .inr (.inl (0, gs))), (512, .inr (.inl (0, ls)))])) (ob := []) rfl (ob_n) ?_
  refine J.callS F hJ lk_X7_66 st_X7_in (by decide +kernel) (c_in i0 0 ((z 14) - 1)) (fun k => k) (by decide) [] rfl rfl rfl (by decide +kernel) rfl (show List.Nodup [] by decide +kernel) (fun r ws' hk hp => ?_)
  obtain ⟨rfl, rfl⟩ := hp
  show J x 4 (ad, 0, 0) (11, [(0, .ref 500), (1, .int i0)], [.int (b2i (inB i0 0 ((z 14) - 1)))], [(500, mO z), (502, a14 h), (505, a28 b), (506, a28 c'), (511, .inr (.inl (0, gs))), (512, .inr (.inl (0, ls)))])
  rw [hI]
  refine J.run (sn_X7_sure F) 7 [1] (S' := (23, [(0, .ref 500), (1, .int i0), (2, .int 0), (3, .int 0)], [.ref 500, .int 0], [(500, mO z), (502, a14 h), (505, a28 b), (506, a28 c'), (511, .inr (.inl (0, gs))), (512, .inr (.inl (0, ls)))])) (ob := [¬ (1 : Int32) = 0]) rfl (ob_c (by decide) ob_n) ?_
  refine J.callV F hJ lk_X7_234 im_X7_ways se_X7_ways (by decide +kernel) (c_ways z h c hc hz) (fun k => k) (by decide) [.int 0] rfl rfl rfl rfl rfl (by decide +kernel) rfl (show List.Nodup [500, 502] by decide +kernel) (fun r ws' hk hp => ?_)
  obtain ⟨rfl, rfl⟩ := hp
  show J x 4 (ad, 0, 0) (26, [(0, .ref 500), (1, .int i0), (2, .int 0), (3, .int 0)], [.int (mwy (h 0) c), .int 0], [(500, mO z), (502, a14 h), (505, a28 b), (506, a28 c'), (511, .inr (.inl (0, gs))), (512, .inr (.inl (0, ls)))])
  rw [hW0]
  refine J.run (sn_X7_sure F) 2 [1] (S' := (59, [(0, .ref 500), (1, .int i0), (2, .int 0), (3, .int 0)], [.int 0], [(500, mO z), (502, a14 h), (505, a28 b), (506, a28 c'), (511, .inr (.inl (0, gs))), (512, .inr (.inl (0, ls)))])) (ob := [0 ≤ (0 : Int32)]) rfl (ob_c (by decide) ob_n) ?_
  refine J.callS F hJ lk_X7_223 st_X7_ones (by decide +kernel) (c_ones 0) (fun k => k) (by decide) [] rfl rfl rfl (by decide +kernel) rfl (show List.Nodup [] by decide +kernel) (fun r ws' hk hp => ?_)
  obtain ⟨rfl, rfl⟩ := hp
  show J x 4 (ad, 0, 0) (62, [(0, .ref 500), (1, .int i0), (2, .int 0), (3, .int 0)], [.int (onI 0)], [(500, mO z), (502, a14 h), (505, a28 b), (506, a28 c'), (511, .inr (.inl (0, gs))), (512, .inr (.inl (0, ls)))])
  refine J.run (sn_X7_sure F) 3 [1] (S' := (74, [(0, .ref 500), (1, .int i0), (2, .int 0), (3, .int 0)], [.int (-1)], [(500, mO z), (502, a14 h), (505, a28 b), (506, a28 c'), (511, .inr (.inl (0, gs))), (512, .inr (.inl (0, ls)))])) (ob := [¬ (onI 0) = 1]) rfl (ob_c (by decide) ob_n) ?_
  exact J.iret F hR (Nat.le_refl _) (Nat.le_refl _) rfl rfl (by decide +kernel) ⟨rfl, keq [500, 502, 505, 506, 511, 512] rfl rfl, rfl, rfl⟩
