theorem n_ne {a b : Nat} (ha : a < 2 ^ 31) (hb : b < 2 ^ 31) (h : a ≠ b) : ¬ nI a = nI b := by
  intro e
  have e2 := congrArg Int32.toInt e
  rw [nI_toInt ha, nI_toInt hb] at e2
  omega
set_option maxHeartbeats 4000000 in
set_option maxRecDepth 100000 in
theorem c_mfault (z : Nat → Int32) : Ctr mk_X7_fault 1 [.ref 500] [(500, mO z)] (fun r u => r = some (.int (z 16)) ∧ u = [(500, mO z)]) := by
  refine Ctr.of rfl (Nat.le_of_ble_eq_true rfl) ?_
  intro x ad F hJ hR
  refine J.run (sn_X7_fault F) 2 [] (S' := (4, [(0, .ref 500)], [.int (z 16)], [(500, mO z)])) (ob := []) rfl (ob_n) ?_
  exact J.iret F hR (Nat.le_refl _) (Nat.le_refl _) rfl rfl (by decide +kernel) ⟨rfl, keq [500] rfl rfl, rfl, rfl⟩
set_option maxHeartbeats 4000000 in
set_option maxRecDepth 100000 in
theorem c_mdrop (z : Nat → Int32) : Ctr mk_X7_drop 1 [.ref 500] [(500, mO z)] (fun r u => r = some (.int (z 11)) ∧ u = [(500, .inl (7, [.ref 501, .int (z 1), .ref 502, .ref 503, .ref 504, .ref 505, .ref 506, .ref 507, .ref 508, .ref 509, .ref 510, .int 0, .ref 511, .ref 512, .int (z 14), .int (z 15), .int (z 16), .int (z 17), .int (z 18), .int (z 19), .int (z 20), .int (z 21), .int (z 22), .int (z 23), .ref 513, .ref 514, .int (z 26)]))]) := by
  refine Ctr.of rfl (Nat.le_of_ble_eq_true rfl) ?_
  intro x ad F hJ hR
  refine J.run (sn_X7_drop F) 7 [] (S' := (11, [(0, .ref 500), (1, .int (z 11))], [.int (z 11)], [(500, .inl (7, [.ref 501, .int (z 1), .ref 502, .ref 503, .ref 504, .ref 505, .ref 506, .ref 507, .ref 508, .ref 509, .ref 510, .int 0, .ref 511, .ref 512, .int (z 14), .int (z 15), .int (z 16), .int (z 17), .int (z 18), .int (z 19), .int (z 20), .int (z 21), .int (z 22), .int (z 23), .ref 513, .ref 514, .int (z 26)]))])) (ob := []) rfl (ob_n) ?_
  exact J.iret F hR (Nat.le_refl _) (Nat.le_refl _) rfl rfl (by decide +kernel) ⟨rfl, keq [500] rfl rfl, rfl, rfl⟩
set_option maxHeartbeats 4000000 in
set_option maxRecDepth 100000 in
theorem c_mtear (z : Nat → Int32) : Ctr mk_X7_tear 1 [.ref 500] [(500, mO z)] (fun r u => r = some (.int (z 14)) ∧ u = [(500, .inl (7, [.ref 501, .int (z 1), .ref 502, .ref 503, .ref 504, .ref 505, .ref 506, .ref 507, .ref 508, .ref 509, .ref 510, .int (z 11), .ref 511, .ref 512, .int 0, .int (z 15), .int (z 16), .int (z 17), .int (z 18), .int (z 19), .int (z 20), .int (z 21), .int (z 22), .int (z 23), .ref 513, .ref 514, .int (z 26)]))]) := by
  refine Ctr.of rfl (Nat.le_of_ble_eq_true rfl) ?_
  intro x ad F hJ hR
  refine J.run (sn_X7_tear F) 7 [] (S' := (11, [(0, .ref 500), (1, .int (z 14))], [.int (z 14)], [(500, .inl (7, [.ref 501, .int (z 1), .ref 502, .ref 503, .ref 504, .ref 505, .ref 506, .ref 507, .ref 508, .ref 509, .ref 510, .int (z 11), .ref 511, .ref 512, .int 0, .int (z 15), .int (z 16), .int (z 17), .int (z 18), .int (z 19), .int (z 20), .int (z 21), .int (z 22), .int (z 23), .ref 513, .ref 514, .int (z 26)]))])) (ob := []) rfl (ob_n) ?_
  exact J.iret F hR (Nat.le_refl _) (Nat.le_refl _) rfl rfl (by decide +kernel) ⟨rfl, keq [500] rfl rfl, rfl, rfl⟩
set_option maxHeartbeats 4000000 in
set_option maxRecDepth 100000 in
theorem c_mseed_f (z : Nat → Int32) (v : Int32) (hv : v < 0) : Ctr mk_X7_seed 1 [.ref 500, .int v] [(500, mO z)] (fun r u => r = some (.int (-1000000002)) ∧ u = [(500, mO z)]) := by
  refine Ctr.of rfl (Nat.le_of_ble_eq_true rfl) ?_
  intro x ad F hJ hR
  refine J.run (sn_X7_seed F) 3 [0] (S' := (6, [(0, .ref 500), (1, .int v)], [.int (-1000000002)], [(500, mO z)])) (ob := [¬ 0 ≤ v]) rfl (ob_c (f_lt hv) ob_n) ?_
  exact J.iret F hR (Nat.le_refl _) (Nat.le_refl _) rfl rfl (by decide +kernel) ⟨rfl, keq [500] rfl rfl, rfl, rfl⟩
set_option maxHeartbeats 4000000 in
set_option maxRecDepth 100000 in
theorem c_mseed_t (z : Nat → Int32) (v : Int32) (hv : ¬ v < 0) : Ctr mk_X7_seed 1 [.ref 500, .int v] [(500, mO z)] (fun r u => r = some (.int (z 15)) ∧ u = [(500, .inl (7, [.ref 501, .int (z 1), .ref 502, .ref 503, .ref 504, .ref 505, .ref 506, .ref 507, .ref 508, .ref 509, .ref 510, .int (z 11), .ref 511, .ref 512, .int (z 14), .int v, .int (z 16), .int (z 17), .int (z 18), .int (z 19), .int (z 20), .int (z 21), .int (z 22), .int (z 23), .ref 513, .ref 514, .int (z 26)]))]) := by
  refine Ctr.of rfl (Nat.le_of_ble_eq_true rfl) ?_
  intro x ad F hJ hR
  refine J.run (sn_X7_seed F) 9 [1] (S' := (18, [(0, .ref 500), (1, .int v), (2, .int (z 15))], [.int (z 15)], [(500, .inl (7, [.ref 501, .int (z 1), .ref 502, .ref 503, .ref 504, .ref 505, .ref 506, .ref 507, .ref 508, .ref 509, .ref 510, .int (z 11), .ref 511, .ref 512, .int (z 14), .int v, .int (z 16), .int (z 17), .int (z 18), .int (z 19), .int (z 20), .int (z 21), .int (z 22), .int (z 23), .ref 513, .ref 514, .int (z 26)]))])) (ob := [0 ≤ v]) rfl (ob_c (f_nlt hv) ob_n) ?_
  exact J.iret F hR (Nat.le_refl _) (Nat.le_refl _) rfl rfl (by decide +kernel) ⟨rfl, keq [500] rfl rfl, rfl, rfl⟩
set_option maxHeartbeats 4000000 in
set_option maxRecDepth 100000 in
theorem c_mplan_u (z h : Nat → Int32) (ps : List Int32) (n : Nat) (s : Int32) (hS : inB s 0 (((1 : Int32) <<< ((h 0) &&& 31)) - 1) = false) : Ctr mk_X7_plan 3 [.ref 500, .int s] [(500, mO (zp z n)), (502, a14 h), (510, .inr (.inl (0, ps)))] (fun r u => r = some (.int (-1000000001)) ∧ u = [(500, mO (zp z n)), (502, a14 h), (510, .inr (.inl (0, ps)))]) := by
  refine Ctr.of rfl (Nat.le_of_ble_eq_true rfl) ?_
  intro x ad F hJ hR
  refine J.run (sn_X7_plan F) 2 [] (S' := (2, [(0, .ref 500), (1, .int s)], [.int s, .ref 500], [(500, mO (zp z n)), (502, a14 h), (510, .inr (.inl (0, ps)))])) (ob := []) rfl (ob_n) ?_
  refine J.callV F hJ lk_X7_180 im_X7_isSet se_X7_isSet (by decide +kernel) (c_isS (gi [0, z 1, 0, 0, 0, 0, 0, 0, 0, 0, 0, nI n, 0, 0, z 14, z 15, z 16, z 17, z 18, z 19, z 20, z 21, z 22, z 23, 0, 0, z 26]) h s) (fun k => k) (by decide) [] rfl rfl rfl rfl rfl (by decide) rfl (show List.Nodup [500, 502] by decide) (fun r ws' hk hp => ?_)
  obtain ⟨rfl, rfl⟩ := hp
  show J x 2 (ad, 0, 0) (5, [(0, .ref 500), (1, .int s)], [.int (b2i (inB s 0 (((1 : Int32) <<< ((h 0) &&& 31)) - 1)))], [(500, mO (zp z n)), (502, a14 h), (510, .inr (.inl (0, ps)))])
  rw [hS]
  refine J.run (sn_X7_plan F) 2 [0] (S' := (10, [(0, .ref 500), (1, .int s)], [.int (-1000000001)], [(500, mO (zp z n)), (502, a14 h), (510, .inr (.inl (0, ps)))])) (ob := [(0 : Int32) = 0]) rfl (ob_c (by decide) ob_n) ?_
  exact J.iret F hR (Nat.le_refl _) (Nat.le_refl _) rfl rfl (by decide +kernel) ⟨rfl, keq [500, 502, 510] rfl rfl, rfl, rfl⟩
set_option maxHeartbeats 4000000 in
set_option maxRecDepth 100000 in
theorem c_mplan_F (z h : Nat → Int32) (ps : List Int32) (s : Int32) (hS : inB s 0 (((1 : Int32) <<< ((h 0) &&& 31)) - 1) = true) : Ctr mk_X7_plan 3 [.ref 500, .int s] [(500, .inl (7, [.ref 501, .int (z 1), .ref 502, .ref 503, .ref 504, .ref 505, .ref 506, .ref 507, .ref 508, .ref 509, .ref 510, .int 30, .ref 511, .ref 512, .int (z 14), .int (z 15), .int (z 16), .int (z 17), .int (z 18), .int (z 19), .int (z 20), .int (z 21), .int (z 22), .int (z 23), .ref 513, .ref 514, .int (z 26)])), (502, a14 h), (510, .inr (.inl (0, ps)))] (fun r u => r = some (.int (-1000000004)) ∧ u = [(500, .inl (7, [.ref 501, .int (z 1), .ref 502, .ref 503, .ref 504, .ref 505, .ref 506, .ref 507, .ref 508, .ref 509, .ref 510, .int 30, .ref 511, .ref 512, .int (z 14), .int (z 15), .int (z 16), .int (z 17), .int (z 18), .int (z 19), .int (z 20), .int (z 21), .int (z 22), .int (z 23), .ref 513, .ref 514, .int (z 26)])), (502, a14 h), (510, .inr (.inl (0, ps)))]) := by
  refine Ctr.of rfl (Nat.le_of_ble_eq_true rfl) ?_
  intro x ad F hJ hR
  refine J.run (sn_X7_plan F) 2 [] (S' := (2, [(0, .ref 500), (1, .int s)], [.int s, .ref 500], [(500, .inl (7, [.ref 501, .int (z 1), .ref 502, .ref 503, .ref 504, .ref 505, .ref 506, .ref 507, .ref 508, .ref 509, .ref 510, .int 30, .ref 511, .ref 512, .int (z 14), .int (z 15), .int (z 16), .int (z 17), .int (z 18), .int (z 19), .int (z 20), .int (z 21), .int (z 22), .int (z 23), .ref 513, .ref 514, .int (z 26)])), (502, a14 h), (510, .inr (.inl (0, ps)))])) (ob := []) rfl (ob_n) ?_
  refine J.callV F hJ lk_X7_180 im_X7_isSet se_X7_isSet (by decide +kernel) (c_isS (gi [0, z 1, 0, 0, 0, 0, 0, 0, 0, 0, 0, 30, 0, 0, z 14, z 15, z 16, z 17, z 18, z 19, z 20, z 21, z 22, z 23, 0, 0, z 26]) h s) (fun k => k) (by decide) [] rfl rfl rfl rfl rfl (by decide) rfl (show List.Nodup [500, 502] by decide) (fun r ws' hk hp => ?_)
  obtain ⟨rfl, rfl⟩ := hp
  show J x 2 (ad, 0, 0) (5, [(0, .ref 500), (1, .int s)], [.int (b2i (inB s 0 (((1 : Int32) <<< ((h 0) &&& 31)) - 1)))], [(500, .inl (7, [.ref 501, .int (z 1), .ref 502, .ref 503, .ref 504, .ref 505, .ref 506, .ref 507, .ref 508, .ref 509, .ref 510, .int 30, .ref 511, .ref 512, .int (z 14), .int (z 15), .int (z 16), .int (z 17), .int (z 18), .int (z 19), .int (z 20), .int (z 21), .int (z 22), .int (z 23), .ref 513, .ref 514, .int (z 26)])), (502, a14 h), (510, .inr (.inl (0, ps)))])
  rw [hS]
  refine J.run (sn_X7_plan F) 6 [1, 0] (S' := (22, [(0, .ref 500), (1, .int s)], [.int (-1000000004)], [(500, .inl (7, [.ref 501, .int (z 1), .ref 502, .ref 503, .ref 504, .ref 505, .ref 506, .ref 507, .ref 508, .ref 509, .ref 510, .int 30, .ref 511, .ref 512, .int (z 14), .int (z 15), .int (z 16), .int (z 17), .int (z 18), .int (z 19), .int (z 20), .int (z 21), .int (z 22), .int (z 23), .ref 513, .ref 514, .int (z 26)])), (502, a14 h), (510, .inr (.inl (0, ps)))])) (ob := [¬ (1 : Int32) = 0, (30 : Int32) = 30]) rfl (ob_c (by decide) (ob_c (by decide) ob_n)) ?_
  exact J.iret F hR (Nat.le_refl _) (Nat.le_refl _) rfl rfl (by decide +kernel) ⟨rfl, keq [500, 502, 510] rfl rfl, rfl, rfl⟩
set_option maxHeartbeats 4000000 in
set_option maxRecDepth 100000 in
theorem c_mplan_t (z h : Nat → Int32) (ps : List Int32) (hps : ps.length = 30) (n : Nat) (hn : n < 30) (s : Int32) (hS : inB s 0 (((1 : Int32) <<< ((h 0) &&& 31)) - 1) = true) : Ctr mk_X7_plan 3 [.ref 500, .int s] [(500, mO (zp z n)), (502, a14 h), (510, .inr (.inl (0, ps)))] (fun r u => r = some (.int (nI (n + 1))) ∧ u = [(500, .inl (7, [.ref 501, .int (z 1), .ref 502, .ref 503, .ref 504, .ref 505, .ref 506, .ref 507, .ref 508, .ref 509, .ref 510, .int (nI (n + 1)), .ref 511, .ref 512, .int (z 14), .int (z 15), .int (z 16), .int (z 17), .int (z 18), .int (z 19), .int (z 20), .int (z 21), .int (z 22), .int (z 23), .ref 513, .ref 514, .int (z 26)])), (502, a14 h), (510, .inr (.inl (0, ps.set n s)))]) := by
  refine Ctr.of rfl (Nat.le_of_ble_eq_true rfl) ?_
  intro x ad F hJ hR
  refine J.run (sn_X7_plan F) 2 [] (S' := (2, [(0, .ref 500), (1, .int s)], [.int s, .ref 500], [(500, mO (zp z n)), (502, a14 h), (510, .inr (.inl (0, ps)))])) (ob := []) rfl (ob_n) ?_
  refine J.callV F hJ lk_X7_180 im_X7_isSet se_X7_isSet (by decide +kernel) (c_isS (gi [0, z 1, 0, 0, 0, 0, 0, 0, 0, 0, 0, nI n, 0, 0, z 14, z 15, z 16, z 17, z 18, z 19, z 20, z 21, z 22, z 23, 0, 0, z 26]) h s) (fun k => k) (by decide) [] rfl rfl rfl rfl rfl (by decide) rfl (show List.Nodup [500, 502] by decide) (fun r ws' hk hp => ?_)
  obtain ⟨rfl, rfl⟩ := hp
  show J x 2 (ad, 0, 0) (5, [(0, .ref 500), (1, .int s)], [.int (b2i (inB s 0 (((1 : Int32) <<< ((h 0) &&& 31)) - 1)))], [(500, mO (zp z n)), (502, a14 h), (510, .inr (.inl (0, ps)))])
  rw [hS]
  refine J.run (sn_X7_plan F) 10 [1, 1] (S' := (32, [(0, .ref 500), (1, .int s)], [.int s, .int (nI n), .ref 510], [(500, mO (zp z n)), (502, a14 h), (510, .inr (.inl (0, ps)))])) (ob := [¬ (1 : Int32) = 0, ¬ (nI n) = 30]) rfl (ob_c (by decide) (ob_c (n_ne (b := 30) (by omega) (by omega) (by omega)) ob_n)) ?_
  refine J.run (sn_X7_plan F) 9 [n] (S' := (47, [(0, .ref 500), (1, .int s)], [.int ((nI n) + 1)], [(500, .inl (7, [.ref 501, .int (z 1), .ref 502, .ref 503, .ref 504, .ref 505, .ref 506, .ref 507, .ref 508, .ref 509, .ref 510, .int ((nI n) + 1), .ref 511, .ref 512, .int (z 14), .int (z 15), .int (z 16), .int (z 17), .int (z 18), .int (z 19), .int (z 20), .int (z 21), .int (z 22), .int (z 23), .ref 513, .ref 514, .int (z 26)])), (502, a14 h), (510, .inr (.inl (0, (ps.set n s))))])) (ob := [ix (nI n) n ps.length]) rfl (ob_c (ix_len hps (ix_nI hn (by decide))) ob_n) ?_
  exact J.iret F hR (Nat.le_refl _) (Nat.le_refl _) rfl rfl (by decide +kernel) ⟨rfl, keq [500, 502, 510] rfl rfl, by rw [nI_1], by simp only [nI_1, mO]⟩
set_option maxHeartbeats 4000000 in
set_option maxRecDepth 100000 in
theorem c_mbeat_u (z h b c : Nat → Int32) (s : Int32) (hS : inB s 0 (((1 : Int32) <<< ((h 0) &&& 31)) - 1) = false) : Ctr mk_X7_beat 5 [.ref 500, .int s] [(500, mO z), (502, a14 h), (505, a28 b), (506, a28 c)] (fun r u => r = some (.int (-1000000001)) ∧ u = [(500, mO z), (502, a14 h), (505, a28 b), (506, a28 c)]) := by
  refine Ctr.of rfl (Nat.le_of_ble_eq_true rfl) ?_
  intro x ad F hJ hR
  refine J.run (sn_X7_beat F) 2 [] (S' := (2, [(0, .ref 500), (1, .int s)], [.int s, .ref 500], [(500, mO z), (502, a14 h), (505, a28 b), (506, a28 c)])) (ob := []) rfl (ob_n) ?_
  refine J.callV F hJ lk_X7_180 im_X7_isSet se_X7_isSet (by decide +kernel) (c_isS z h s) (fun k => k) (by decide) [] rfl rfl rfl rfl rfl (by decide) rfl (show List.Nodup [500, 502] by decide) (fun r ws' hk hp => ?_)
  obtain ⟨rfl, rfl⟩ := hp
  show J x 3 (ad, 0, 0) (5, [(0, .ref 500), (1, .int s)], [.int (b2i (inB s 0 (((1 : Int32) <<< ((h 0) &&& 31)) - 1)))], [(500, mO z), (502, a14 h), (505, a28 b), (506, a28 c)])
  rw [hS]
  refine J.run (sn_X7_beat F) 2 [0] (S' := (10, [(0, .ref 500), (1, .int s)], [.int (-1000000001)], [(500, mO z), (502, a14 h), (505, a28 b), (506, a28 c)])) (ob := [(0 : Int32) = 0]) rfl (ob_c (by decide) ob_n) ?_
  exact J.iret F hR (Nat.le_refl _) (Nat.le_refl _) rfl rfl (by decide +kernel) ⟨rfl, keq [500, 502, 505, 506] rfl rfl, rfl, rfl⟩
set_option maxHeartbeats 4000000 in
set_option maxRecDepth 100000 in
theorem c_mbeat_t (z h b c : Nat → Int32) (s : Int32) (hS : inB s 0 (((1 : Int32) <<< ((h 0) &&& 31)) - 1) = true) (hn : h 0 ≤ 4) (hst : st5 b) : Ctr mk_X7_beat 5 [.ref 500, .int s] [(500, mO z), (502, a14 h), (505, a28 b), (506, a28 c)] (fun r u => r = some (.int (mwho h (mcp b) s)) ∧ u = [(500, mO z), (502, a14 h), (505, a28 (mtk b (mplay h (mcp b) s))), (506, a28 (mplay h (mcp b) s))]) := by
  refine Ctr.of rfl (Nat.le_of_ble_eq_true rfl) ?_
  intro x ad F hJ hR
  refine J.run (sn_X7_beat F) 2 [] (S' := (2, [(0, .ref 500), (1, .int s)], [.int s, .ref 500], [(500, mO z), (502, a14 h), (505, a28 b), (506, a28 c)])) (ob := []) rfl (ob_n) ?_
  refine J.callV F hJ lk_X7_180 im_X7_isSet se_X7_isSet (by decide +kernel) (c_isS z h s) (fun k => k) (by decide) [] rfl rfl rfl rfl rfl (by decide) rfl (show List.Nodup [500, 502] by decide) (fun r ws' hk hp => ?_)
  obtain ⟨rfl, rfl⟩ := hp
  show J x 3 (ad, 0, 0) (5, [(0, .ref 500), (1, .int s)], [.int (b2i (inB s 0 (((1 : Int32) <<< ((h 0) &&& 31)) - 1)))], [(500, mO z), (502, a14 h), (505, a28 b), (506, a28 c)])
  rw [hS]
  refine J.run (sn_X7_beat F) 2 [1] (S' := (12, [(0, .ref 500), (1, .int s)], [.ref 500], [(500, mO z), (502, a14 h), (505, a28 b), (506, a28 c)])) (ob := [¬ (1 : Int32) = 0]) rfl (ob_c (by decide) ob_n) ?_
  refine J.callV F hJ lk_X7_183 im_X7_copies se_X7_copies (by decide +kernel) (c_copies z b c) (fun k => k) (by decide) [] rfl rfl rfl rfl rfl (by decide) rfl (show List.Nodup [500, 505, 506] by decide) (fun r ws' hk hp => ?_)
  obtain ⟨rfl, rfl⟩ := hp
  show J x 3 (ad, 0, 0) (15, [(0, .ref 500), (1, .int s)], [], [(500, mO z), (502, a14 h), (505, a28 b), (506, a28 (mcp b))])
  refine J.run (sn_X7_beat F) 2 [] (S' := (17, [(0, .ref 500), (1, .int s)], [.int s, .ref 500], [(500, mO z), (502, a14 h), (505, a28 b), (506, a28 (mcp b))])) (ob := []) rfl (ob_n) ?_
  refine J.callV F hJ lk_X7_186 im_X7_plays se_X7_plays (by decide +kernel) (c_plays z (mcp b) h s hn hst) (fun k => k) (by decide) [] rfl rfl rfl rfl rfl (by decide) rfl (show List.Nodup [500, 502, 506] by decide) (fun r ws' hk hp => ?_)
  obtain ⟨rfl, rfl⟩ := hp
  show J x 3 (ad, 0, 0) (20, [(0, .ref 500), (1, .int s)], [.int (mwho h (mcp b) s)], [(500, mO z), (502, a14 h), (505, a28 b), (506, a28 (mplay h (mcp b) s))])
  refine J.run (sn_X7_beat F) 2 [] (S' := (22, [(0, .ref 500), (1, .int s), (2, .int (mwho h (mcp b) s))], [.ref 500], [(500, mO z), (502, a14 h), (505, a28 b), (506, a28 (mplay h (mcp b) s))])) (ob := []) rfl (ob_n) ?_
  refine J.callV F hJ lk_X7_189 im_X7_takes se_X7_takes (by decide +kernel) (c_takes z b (mplay h (mcp b) s)) (fun k => k) (by decide) [] rfl rfl rfl rfl rfl (by decide) rfl (show List.Nodup [500, 505, 506] by decide) (fun r ws' hk hp => ?_)
  obtain ⟨rfl, rfl⟩ := hp
  show J x 3 (ad, 0, 0) (25, [(0, .ref 500), (1, .int s), (2, .int (mwho h (mcp b) s))], [], [(500, mO z), (502, a14 h), (505, a28 (mtk b (mplay h (mcp b) s))), (506, a28 (mplay h (mcp b) s))])
  refine J.run (sn_X7_beat F) 1 [] (S' := (26, [(0, .ref 500), (1, .int s), (2, .int (mwho h (mcp b) s))], [.int (mwho h (mcp b) s)], [(500, mO z), (502, a14 h), (505, a28 (mtk b (mplay h (mcp b) s))), (506, a28 (mplay h (mcp b) s))])) (ob := []) rfl (ob_n) ?_
  exact J.iret F hR (Nat.le_refl _) (Nat.le_refl _) rfl rfl (by decide +kernel) ⟨rfl, keq [500, 502, 505, 506] rfl rfl, rfl, rfl⟩
set_option maxHeartbeats 4000000 in
set_option maxRecDepth 100000 in
theorem c_mlaw (z b : Nat → Int32) (k p q : Int32) : Ctr mk_X7_law 2 [.ref 500, .int k, .int p, .int q] [(500, mO z), (505, a28 b)] (fun r u => (r, u) = if (inB k 0 2 && inB p 0 99 && inB q 0 99) = true then (some (.int (b 0)), [(500, mO z), (505, .inr (.inl (0, [k, p, q, b 3, b 4, b 5, b 6, b 7, b 8, b 9, b 10, b 11, b 12, b 13, b 14, b 15, b 16, b 17, b 18, b 19, b 20, b 21, b 22, b 23, b 24, b 25, b 26, b 27])))]) else (some (.int (-1000000002)), [(500, mO z), (505, a28 b)])) := by
  refine Ctr.of rfl (Nat.le_of_ble_eq_true rfl) ?_
  intro x ad F hJ hR
  refine J.run (sn_X7_law F) 3 [] (S' := (3, [(0, .ref 500), (1, .int k), (2, .int p), (3, .int q)], [.int 2, .int 0, .int k], [(500, mO z), (505, a28 b)])) (ob := []) rfl (ob_n) ?_
  refine J.callS F hJ lk_X7_66 st_X7_in (by decide +kernel) (c_in k 0 2) (fun k => k) (by decide) [] rfl rfl rfl (by decide) rfl (show List.Nodup [] by decide) (fun r ws' hk hp => ?_)
  obtain ⟨rfl, rfl⟩ := hp
  show J x 5 (ad, 0, 0) (6, [(0, .ref 500), (1, .int k), (2, .int p), (3, .int q)], [.int (b2i (inB k 0 2))], [(500, mO z), (505, a28 b)])
  cases hb1 : inB k 0 2
  · skip
    refine J.run (sn_X7_law F) 2 [1] (S' := (31, [(0, .ref 500), (1, .int k), (2, .int p), (3, .int q)], [.int (-1000000002)], [(500, mO z), (505, a28 b)])) (ob := [(0 : Int32) = 0]) rfl (ob_c (by decide) ob_n) ?_
    exact J.iret F hR (Nat.le_refl _) (Nat.le_refl _) rfl rfl (by decide +kernel) ⟨rfl, keq [500, 505] rfl rfl, by simp only [hb1, ↓reduceIte, ite_self, Bool.false_eq_true, cond_true, cond_false, Bool.true_and, Bool.false_and, Bool.and_true, Bool.and_false, Bool.true_or, Bool.false_or, Bool.or_true, Bool.or_false, Bool.not_true, Bool.not_false, decide_true, decide_false, b2i_t, b2i_f]⟩
  · skip
    refine J.run (sn_X7_law F) 4 [0] (S' := (13, [(0, .ref 500), (1, .int k), (2, .int p), (3, .int q)], [.int 99, .int 0, .int p], [(500, mO z), (505, a28 b)])) (ob := [¬ (1 : Int32) = 0]) rfl (ob_c (by decide) ob_n) ?_
    refine J.callS F hJ lk_X7_66 st_X7_in (by decide +kernel) (c_in p 0 99) (fun k => k) (by decide) [] rfl rfl rfl (by decide) rfl (show List.Nodup [] by decide) (fun r ws' hk hp => ?_)
    obtain ⟨rfl, rfl⟩ := hp
    show J x 5 (ad, 0, 0) (16, [(0, .ref 500), (1, .int k), (2, .int p), (3, .int q)], [.int (b2i (inB p 0 99))], [(500, mO z), (505, a28 b)])
    cases hb2 : inB p 0 99
    · skip
      refine J.run (sn_X7_law F) 2 [1] (S' := (31, [(0, .ref 500), (1, .int k), (2, .int p), (3, .int q)], [.int (-1000000002)], [(500, mO z), (505, a28 b)])) (ob := [(0 : Int32) = 0]) rfl (ob_c (by decide) ob_n) ?_
      exact J.iret F hR (Nat.le_refl _) (Nat.le_refl _) rfl rfl (by decide +kernel) ⟨rfl, keq [500, 505] rfl rfl, by simp only [hb1, hb2, ↓reduceIte, ite_self, Bool.false_eq_true, cond_true, cond_false, Bool.true_and, Bool.false_and, Bool.and_true, Bool.and_false, Bool.true_or, Bool.false_or, Bool.or_true, Bool.or_false, Bool.not_true, Bool.not_false, decide_true, decide_false, b2i_t, b2i_f]⟩
    · skip
      refine J.run (sn_X7_law F) 4 [0] (S' := (23, [(0, .ref 500), (1, .int k), (2, .int p), (3, .int q)], [.int 99, .int 0, .int q], [(500, mO z), (505, a28 b)])) (ob := [¬ (1 : Int32) = 0]) rfl (ob_c (by decide) ob_n) ?_
      refine J.callS F hJ lk_X7_66 st_X7_in (by decide +kernel) (c_in q 0 99) (fun k => k) (by decide) [] rfl rfl rfl (by decide) rfl (show List.Nodup [] by decide) (fun r ws' hk hp => ?_)
      obtain ⟨rfl, rfl⟩ := hp
      show J x 5 (ad, 0, 0) (26, [(0, .ref 500), (1, .int k), (2, .int p), (3, .int q)], [.int (b2i (inB q 0 99))], [(500, mO z), (505, a28 b)])
      cases hb3 : inB q 0 99
      · skip
        refine J.run (sn_X7_law F) 2 [0] (S' := (31, [(0, .ref 500), (1, .int k), (2, .int p), (3, .int q)], [.int (-1000000002)], [(500, mO z), (505, a28 b)])) (ob := [(0 : Int32) = 0]) rfl (ob_c (by decide) ob_n) ?_
        exact J.iret F hR (Nat.le_refl _) (Nat.le_refl _) rfl rfl (by decide +kernel) ⟨rfl, keq [500, 505] rfl rfl, by simp only [hb1, hb2, hb3, ↓reduceIte, ite_self, Bool.false_eq_true, cond_true, cond_false, Bool.true_and, Bool.false_and, Bool.and_true, Bool.and_false, Bool.true_or, Bool.false_or, Bool.or_true, Bool.or_false, Bool.not_true, Bool.not_false, decide_true, decide_false, b2i_t, b2i_f]⟩
      · skip
        refine J.run (sn_X7_law F) 10 [1, 0] (S' := (46, [(0, .ref 500), (1, .int k), (2, .int p), (3, .int q), (4, .int (b 0))], [.int k, .int 0, .ref 505], [(500, mO z), (505, a28 b)])) (ob := [¬ (1 : Int32) = 0, ix 0 0 28]) rfl (ob_c (by decide) (ob_c (ix_of rfl) ob_n)) ?_
        refine J.run (sn_X7_law F) 10 [0, 1] (S' := (60, [(0, .ref 500), (1, .int k), (2, .int p), (3, .int q), (4, .int (b 0))], [.int q, .int 2, .ref 505], [(500, mO z), (505, .inr (.inl (0, [k, p, b 2, b 3, b 4, b 5, b 6, b 7, b 8, b 9, b 10, b 11, b 12, b 13, b 14, b 15, b 16, b 17, b 18, b 19, b 20, b 21, b 22, b 23, b 24, b 25, b 26, b 27])))])) (ob := [ix 0 0 28, ix 1 1 28]) rfl (ob_c (ix_of rfl) (ob_c (ix_of rfl) ob_n)) ?_
        refine J.run (sn_X7_law F) 2 [2] (S' := (63, [(0, .ref 500), (1, .int k), (2, .int p), (3, .int q), (4, .int (b 0))], [.int (b 0)], [(500, mO z), (505, .inr (.inl (0, [k, p, q, b 3, b 4, b 5, b 6, b 7, b 8, b 9, b 10, b 11, b 12, b 13, b 14, b 15, b 16, b 17, b 18, b 19, b 20, b 21, b 22, b 23, b 24, b 25, b 26, b 27])))])) (ob := [ix 2 2 28]) rfl (ob_c (ix_of rfl) ob_n) ?_
        exact J.iret F hR (Nat.le_refl _) (Nat.le_refl _) rfl rfl (by decide +kernel) ⟨rfl, keq [500, 505] rfl rfl, by simp only [hb1, hb2, hb3, ↓reduceIte, ite_self, Bool.false_eq_true, cond_true, cond_false, Bool.true_and, Bool.false_and, Bool.and_true, Bool.and_false, Bool.true_or, Bool.false_or, Bool.or_true, Bool.or_false, Bool.not_true, Bool.not_false, decide_true, decide_false, b2i_t, b2i_f]⟩
