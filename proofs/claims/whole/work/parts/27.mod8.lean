def prS (q : Int32) : Nat → Int64
  | 0 => 1000000000
  | i + 1 => prS q i * Int32.toInt64 (100 - q) / 100
theorem prS_s (q : Int32) (i : Nat) : prS q (i + 1) = prS q i * Int32.toInt64 (100 - q) / 100 := rfl
def stk (b : Nat → Int32) (k : Int32) : Nat → Int32 := gi [k, b 1, b 2, b 3, b 4, b 5, b 6, b 7, b 8, b 9, b 10, b 11, b 12, b 13, b 14, b 15, b 16, b 17, b 18, b 19, b 20, b 21, b 22, b 23, b 24, b 25, b 26, b 27]
def lwS (n a b c d : Int32) : Int32 := if n ≤ 0 then 0 else if n ≤ 1 then 0 + a else if n ≤ 2 then 0 + a + b else if n ≤ 3 then 0 + a + b + c else 0 + a + b + c + d
set_option maxHeartbeats 4000000 in
set_option maxRecDepth 100000 in
theorem c_mpremO1 (z h b : Nat → Int32) (k w : Int32) (hK : inB k 0 50 = false) : Ctr mk_X7_premium 2 [.ref 500, .int k, .int w] [(500, mO z), (502, a14 h), (505, a28 b)] (fun r u => r = some (.int (-1000000002)) ∧ u = [(500, mO z), (502, a14 h), (505, a28 b)]) := by
  refine Ctr.of rfl (Nat.le_of_ble_eq_true rfl) ?_
  intro x ad F hJ hR
  refine J.run (sn_X7_premium F) 3 [] (S' := (4, [(0, .ref 500), (1, .int k), (2, .int w)], [.int 50, .int 0, .int k], [(500, mO z), (502, a14 h), (505, a28 b)])) (ob := []) rfl (ob_n) ?_
  refine J.callS F hJ lk_X7_66 st_X7_in (by decide +kernel) (c_in k 0 50) (fun k => k) (by decide) [] rfl rfl rfl (by decide) rfl (show List.Nodup [] by decide) (fun r ws' hk hp => ?_)
  obtain ⟨rfl, rfl⟩ := hp
  show J x 7 (ad, 0, 0) (7, [(0, .ref 500), (1, .int k), (2, .int w)], [.int (b2i (inB k 0 50))], [(500, mO z), (502, a14 h), (505, a28 b)])
  rw [hK]
  refine J.run (sn_X7_premium F) 2 [1] (S' := (21, [(0, .ref 500), (1, .int k), (2, .int w)], [.int (-1000000002)], [(500, mO z), (502, a14 h), (505, a28 b)])) (ob := [(0 : Int32) = 0]) rfl (ob_c (by decide) ob_n) ?_
  exact J.iret F hR (Nat.le_refl _) (Nat.le_refl _) rfl rfl (by decide +kernel) ⟨rfl, keq [500, 502, 505] rfl rfl, rfl, rfl⟩
set_option maxHeartbeats 4000000 in
set_option maxRecDepth 100000 in
theorem c_mpremO2 (z h b : Nat → Int32) (k w : Int32) (hK : inB k 0 50 = true) (hW : inB w 0 1 = false) : Ctr mk_X7_premium 2 [.ref 500, .int k, .int w] [(500, mO z), (502, a14 h), (505, a28 b)] (fun r u => r = some (.int (-1000000002)) ∧ u = [(500, mO z), (502, a14 h), (505, a28 b)]) := by
  refine Ctr.of rfl (Nat.le_of_ble_eq_true rfl) ?_
  intro x ad F hJ hR
  refine J.run (sn_X7_premium F) 3 [] (S' := (4, [(0, .ref 500), (1, .int k), (2, .int w)], [.int 50, .int 0, .int k], [(500, mO z), (502, a14 h), (505, a28 b)])) (ob := []) rfl (ob_n) ?_
  refine J.callS F hJ lk_X7_66 st_X7_in (by decide +kernel) (c_in k 0 50) (fun k => k) (by decide) [] rfl rfl rfl (by decide) rfl (show List.Nodup [] by decide) (fun r ws' hk hp => ?_)
  obtain ⟨rfl, rfl⟩ := hp
  show J x 7 (ad, 0, 0) (7, [(0, .ref 500), (1, .int k), (2, .int w)], [.int (b2i (inB k 0 50))], [(500, mO z), (502, a14 h), (505, a28 b)])
  rw [hK]
  refine J.run (sn_X7_premium F) 4 [0] (S' := (13, [(0, .ref 500), (1, .int k), (2, .int w)], [.int 1, .int 0, .int w], [(500, mO z), (502, a14 h), (505, a28 b)])) (ob := [¬ (1 : Int32) = 0]) rfl (ob_c (by decide) ob_n) ?_
  refine J.callS F hJ lk_X7_66 st_X7_in (by decide +kernel) (c_in w 0 1) (fun k => k) (by decide) [] rfl rfl rfl (by decide) rfl (show List.Nodup [] by decide) (fun r ws' hk hp => ?_)
  obtain ⟨rfl, rfl⟩ := hp
  show J x 7 (ad, 0, 0) (16, [(0, .ref 500), (1, .int k), (2, .int w)], [.int (b2i (inB w 0 1))], [(500, mO z), (502, a14 h), (505, a28 b)])
  rw [hW]
  refine J.run (sn_X7_premium F) 2 [0] (S' := (21, [(0, .ref 500), (1, .int k), (2, .int w)], [.int (-1000000002)], [(500, mO z), (502, a14 h), (505, a28 b)])) (ob := [(0 : Int32) = 0]) rfl (ob_c (by decide) ob_n) ?_
  exact J.iret F hR (Nat.le_refl _) (Nat.le_refl _) rfl rfl (by decide +kernel) ⟨rfl, keq [500, 502, 505] rfl rfl, rfl, rfl⟩
set_option maxHeartbeats 4000000 in
set_option maxRecDepth 100000 in
theorem c_mprem0 (z h b : Nat → Int32) (c : Nat) (hc : c ≤ 50) (hK : inB (nI c) 0 50 = true) : Ctr mk_X7_premium 2 [.ref 500, .int (nI c), .int 0] [(500, mO z), (502, a14 h), (505, a28 b)] (fun r u => r = some (.int (Int64.toInt32 (1000000000 - prS (h 1) c))) ∧ u = [(500, mO z), (502, a14 h), (505, a28 b)]) := by
  refine Ctr.of rfl (Nat.le_of_ble_eq_true rfl) ?_
  intro x ad F hJ hR
  have H : ∀ k i : Nat, i + k = c → J x 7 (ad, 0, 0) (29, [(0, .ref 500), (1, .int (nI c)), (2, .int 0), (3, .long (prS (h 1) i)), (5, .int (nI i))], [], [(500, mO z), (502, a14 h), (505, a28 b)]) := by
    intro k
    induction k with
    | zero =>
      intro i hi
      have e : i = c := by omega
      subst e
      refine J.run (sn_X7_premium F) 10 [1, 0] (S' := (71, [(0, .ref 500), (1, .int (nI i)), (2, .int 0), (3, .long (prS (h 1) i)), (5, .long (1000000000 - (prS (h 1) i)))], [.long (1000000000 - (prS (h 1) i))], [(500, mO z), (502, a14 h), (505, a28 b)])) (ob := [(nI i) ≤ (nI i), (0 : Int32) = 0]) rfl (ob_c (n_le (by omega) (by omega) (Nat.le_refl _)) (ob_c (by decide) ob_n)) ?_
      refine J.run (sn_X7_premium F) 2 [] (S' := (89, [(0, .ref 500), (1, .int (nI i)), (2, .int 0), (3, .long (prS (h 1) i)), (5, .long (1000000000 - (prS (h 1) i)))], [.int (Int64.toInt32 (1000000000 - (prS (h 1) i)))], [(500, mO z), (502, a14 h), (505, a28 b)])) (ob := []) rfl (ob_n) ?_
      exact J.iret F hR (Nat.le_refl _) (Nat.le_refl _) rfl rfl (by decide +kernel) ⟨rfl, keq [500, 502, 505] rfl rfl, rfl, rfl⟩
    | succ k ih =>
      intro i hi
      have hin : i < c := by omega
      refine J.run (sn_X7_premium F) 10 [0, 1] (S' := (45, [(0, .ref 500), (1, .int (nI c)), (2, .int 0), (3, .long (prS (h 1) i)), (5, .int (nI i))], [.int (100 - (h 1)), .long (prS (h 1) i)], [(500, mO z), (502, a14 h), (505, a28 b)])) (ob := [¬ (nI c) ≤ (nI i), ix 1 1 14]) rfl (ob_c (n_nle (by omega) (by omega) hin) (ob_c (ix_of rfl) ob_n)) ?_
      refine J.run (sn_X7_premium F) 7 [] (S' := (29, [(0, .ref 500), (1, .int (nI c)), (2, .int 0), (3, .long (((prS (h 1) i) * (Int32.toInt64 (100 - (h 1)))) / 100)), (5, .int ((nI i) + 1))], [], [(500, mO z), (502, a14 h), (505, a28 b)])) (ob := [¬ (100 : Int64) = 0]) rfl (ob_c (by decide) ob_n) ?_
      exact J.cast (ih (i + 1) (by omega)) (by simp only [prS_s, nI_1])
  refine J.run (sn_X7_premium F) 3 [] (S' := (4, [(0, .ref 500), (1, .int (nI c)), (2, .int 0)], [.int 50, .int 0, .int (nI c)], [(500, mO z), (502, a14 h), (505, a28 b)])) (ob := []) rfl (ob_n) ?_
  refine J.callS F hJ lk_X7_66 st_X7_in (by decide +kernel) (c_in (nI c) 0 50) (fun k => k) (by decide) [] rfl rfl rfl (by decide) rfl (show List.Nodup [] by decide) (fun r ws' hk hp => ?_)
  obtain ⟨rfl, rfl⟩ := hp
  show J x 7 (ad, 0, 0) (7, [(0, .ref 500), (1, .int (nI c)), (2, .int 0)], [.int (b2i (inB (nI c) 0 50))], [(500, mO z), (502, a14 h), (505, a28 b)])
  rw [hK]
  refine J.run (sn_X7_premium F) 4 [0] (S' := (13, [(0, .ref 500), (1, .int (nI c)), (2, .int 0)], [.int 1, .int 0, .int 0], [(500, mO z), (502, a14 h), (505, a28 b)])) (ob := [¬ (1 : Int32) = 0]) rfl (ob_c (by decide) ob_n) ?_
  refine J.callS F hJ lk_X7_66 st_X7_in (by decide +kernel) (c_in 0 0 1) (fun k => k) (by decide) [] rfl rfl rfl (by decide) rfl (show List.Nodup [] by decide) (fun r ws' hk hp => ?_)
  obtain ⟨rfl, rfl⟩ := hp
  show J x 7 (ad, 0, 0) (16, [(0, .ref 500), (1, .int (nI c)), (2, .int 0)], [.int (b2i (inB 0 0 1))], [(500, mO z), (502, a14 h), (505, a28 b)])
  rw [show inB 0 0 1 = true from by decide]
  refine J.run (sn_X7_premium F) 5 [1] (S' := (29, [(0, .ref 500), (1, .int (nI c)), (2, .int 0), (3, .long 1000000000), (5, .int 0)], [], [(500, mO z), (502, a14 h), (505, a28 b)])) (ob := [¬ (1 : Int32) = 0]) rfl (ob_c (by decide) ob_n) ?_
  exact H c 0 (by omega)
set_option maxHeartbeats 4000000 in
set_option maxRecDepth 100000 in
theorem c_mprem1 (z h b : Nat → Int32) (c : Nat) (hc : c ≤ 50) (hK : inB (nI c) 0 50 = true) : Ctr mk_X7_premium 2 [.ref 500, .int (nI c), .int 1] [(500, mO z), (502, a14 h), (505, a28 b)] (fun r u => r = some (.int (Int64.toInt32 ((1000000000 - prS (h 1) c) * Int32.toInt64 (b 1) / 1000000000))) ∧ u = [(500, mO z), (502, a14 h), (505, a28 b)]) := by
  refine Ctr.of rfl (Nat.le_of_ble_eq_true rfl) ?_
  intro x ad F hJ hR
  have H : ∀ k i : Nat, i + k = c → J x 7 (ad, 0, 0) (29, [(0, .ref 500), (1, .int (nI c)), (2, .int 1), (3, .long (prS (h 1) i)), (5, .int (nI i))], [], [(500, mO z), (502, a14 h), (505, a28 b)]) := by
    intro k
    induction k with
    | zero =>
      intro i hi
      have e : i = c := by omega
      subst e
      refine J.run (sn_X7_premium F) 10 [1, 1] (S' := (76, [(0, .ref 500), (1, .int (nI i)), (2, .int 1), (3, .long (prS (h 1) i)), (5, .long (1000000000 - (prS (h 1) i)))], [.long (1000000000 - (prS (h 1) i))], [(500, mO z), (502, a14 h), (505, a28 b)])) (ob := [(nI i) ≤ (nI i), ¬ (1 : Int32) = 0]) rfl (ob_c (n_le (by omega) (by omega) (Nat.le_refl _)) (ob_c (by decide) ob_n)) ?_
      refine J.run (sn_X7_premium F) 9 [1] (S' := (89, [(0, .ref 500), (1, .int (nI i)), (2, .int 1), (3, .long (prS (h 1) i)), (5, .long (1000000000 - (prS (h 1) i)))], [.int (Int64.toInt32 (((1000000000 - (prS (h 1) i)) * (Int32.toInt64 (b 1))) / 1000000000))], [(500, mO z), (502, a14 h), (505, a28 b)])) (ob := [ix 1 1 28, ¬ (1000000000 : Int64) = 0]) rfl (ob_c (ix_of rfl) (ob_c (by decide) ob_n)) ?_
      exact J.iret F hR (Nat.le_refl _) (Nat.le_refl _) rfl rfl (by decide +kernel) ⟨rfl, keq [500, 502, 505] rfl rfl, rfl, rfl⟩
    | succ k ih =>
      intro i hi
      have hin : i < c := by omega
      refine J.run (sn_X7_premium F) 10 [0, 1] (S' := (45, [(0, .ref 500), (1, .int (nI c)), (2, .int 1), (3, .long (prS (h 1) i)), (5, .int (nI i))], [.int (100 - (h 1)), .long (prS (h 1) i)], [(500, mO z), (502, a14 h), (505, a28 b)])) (ob := [¬ (nI c) ≤ (nI i), ix 1 1 14]) rfl (ob_c (n_nle (by omega) (by omega) hin) (ob_c (ix_of rfl) ob_n)) ?_
      refine J.run (sn_X7_premium F) 7 [] (S' := (29, [(0, .ref 500), (1, .int (nI c)), (2, .int 1), (3, .long (((prS (h 1) i) * (Int32.toInt64 (100 - (h 1)))) / 100)), (5, .int ((nI i) + 1))], [], [(500, mO z), (502, a14 h), (505, a28 b)])) (ob := [¬ (100 : Int64) = 0]) rfl (ob_c (by decide) ob_n) ?_
      exact J.cast (ih (i + 1) (by omega)) (by simp only [prS_s, nI_1])
  refine J.run (sn_X7_premium F) 3 [] (S' := (4, [(0, .ref 500), (1, .int (nI c)), (2, .int 1)], [.int 50, .int 0, .int (nI c)], [(500, mO z), (502, a14 h), (505, a28 b)])) (ob := []) rfl (ob_n) ?_
  refine J.callS F hJ lk_X7_66 st_X7_in (by decide +kernel) (c_in (nI c) 0 50) (fun k => k) (by decide) [] rfl rfl rfl (by decide) rfl (show List.Nodup [] by decide) (fun r ws' hk hp => ?_)
  obtain ⟨rfl, rfl⟩ := hp
  show J x 7 (ad, 0, 0) (7, [(0, .ref 500), (1, .int (nI c)), (2, .int 1)], [.int (b2i (inB (nI c) 0 50))], [(500, mO z), (502, a14 h), (505, a28 b)])
  rw [hK]
  refine J.run (sn_X7_premium F) 4 [0] (S' := (13, [(0, .ref 500), (1, .int (nI c)), (2, .int 1)], [.int 1, .int 0, .int 1], [(500, mO z), (502, a14 h), (505, a28 b)])) (ob := [¬ (1 : Int32) = 0]) rfl (ob_c (by decide) ob_n) ?_
  refine J.callS F hJ lk_X7_66 st_X7_in (by decide +kernel) (c_in 1 0 1) (fun k => k) (by decide) [] rfl rfl rfl (by decide) rfl (show List.Nodup [] by decide) (fun r ws' hk hp => ?_)
  obtain ⟨rfl, rfl⟩ := hp
  show J x 7 (ad, 0, 0) (16, [(0, .ref 500), (1, .int (nI c)), (2, .int 1)], [.int (b2i (inB 1 0 1))], [(500, mO z), (502, a14 h), (505, a28 b)])
  rw [show inB 1 0 1 = true from by decide]
  refine J.run (sn_X7_premium F) 5 [1] (S' := (29, [(0, .ref 500), (1, .int (nI c)), (2, .int 1), (3, .long 1000000000), (5, .int 0)], [], [(500, mO z), (502, a14 h), (505, a28 b)])) (ob := [¬ (1 : Int32) = 0]) rfl (ob_c (by decide) ob_n) ?_
  exact H c 0 (by omega)
set_option maxHeartbeats 4000000 in
set_option maxRecDepth 100000 in
theorem c_mlawsO (z h b c : Nat → Int32) (ps : List Int32) (hps : ps.length = 30) (n : Nat) (hnn : n ≤ 30) (hn : h 0 ≤ 4) (hst : st5 b) (k : Int32) (hK : inB k 0 2 = false) : Ctr mk_X7_laws 5 [.ref 500, .int k] [(500, mO (zp z n)), (502, a14 h), (505, a28 b), (506, a28 c), (510, .inr (.inl (0, ps)))] (fun r u => r = some (.int (-1000000002)) ∧ u = [(500, mO (zp z n)), (502, a14 h), (505, a28 b), (506, a28 c), (510, .inr (.inl (0, ps)))]) := by
  refine Ctr.of rfl (Nat.le_of_ble_eq_true rfl) ?_
  intro x ad F hJ hR
  refine J.run (sn_X7_laws F) 3 [] (S' := (3, [(0, .ref 500), (1, .int k)], [.int 2, .int 0, .int k], [(500, mO (zp z n)), (502, a14 h), (505, a28 b), (506, a28 c), (510, .inr (.inl (0, ps)))])) (ob := []) rfl (ob_n) ?_
  refine J.callS F hJ lk_X7_66 st_X7_in (by decide +kernel) (c_in k 0 2) (fun k => k) (by decide) [] rfl rfl rfl (by decide) rfl (show List.Nodup [] by decide) (fun r ws' hk hp => ?_)
  obtain ⟨rfl, rfl⟩ := hp
  show J x 4 (ad, 0, 0) (6, [(0, .ref 500), (1, .int k)], [.int (b2i (inB k 0 2))], [(500, mO (zp z n)), (502, a14 h), (505, a28 b), (506, a28 c), (510, .inr (.inl (0, ps)))])
  rw [hK]
  refine J.run (sn_X7_laws F) 2 [0] (S' := (11, [(0, .ref 500), (1, .int k)], [.int (-1000000002)], [(500, mO (zp z n)), (502, a14 h), (505, a28 b), (506, a28 c), (510, .inr (.inl (0, ps)))])) (ob := [(0 : Int32) = 0]) rfl (ob_c (by decide) ob_n) ?_
  exact J.iret F hR (Nat.le_refl _) (Nat.le_refl _) rfl rfl (by decide +kernel) ⟨rfl, keq [500, 502, 505, 506, 510] rfl rfl, rfl, rfl⟩
set_option maxHeartbeats 4000000 in
set_option maxRecDepth 100000 in
theorem c_mlaws (z h b c : Nat → Int32) (ps : List Int32) (hps : ps.length = 30) (n : Nat) (hnn : n ≤ 30) (hn : h 0 ≤ 4) (hst : st5 b) (k : Int32) (hK : inB k 0 2 = true) : Ctr mk_X7_laws 5 [.ref 500, .int k] [(500, mO (zp z n)), (502, a14 h), (505, a28 b), (506, a28 c), (510, .inr (.inl (0, ps)))] (fun r u => r = some (.int (lwS (h 0) (mrB h ps (stk (mcp b) k) n 21 - b 21) (mrB h ps (stk (mcp b) k) n 22 - b 22) (mrB h ps (stk (mcp b) k) n 23 - b 23) (mrB h ps (stk (mcp b) k) n 24 - b 24))) ∧ u = [(500, mO (zp z n)), (502, a14 h), (505, a28 b), (506, a28 (mrB h ps (stk (mcp b) k) n)), (510, .inr (.inl (0, ps)))]) := by
  refine Ctr.of rfl (Nat.le_of_ble_eq_true rfl) ?_
  intro x ad F hJ hR
  refine J.run (sn_X7_laws F) 3 [] (S' := (3, [(0, .ref 500), (1, .int k)], [.int 2, .int 0, .int k], [(500, mO (zp z n)), (502, a14 h), (505, a28 b), (506, a28 c), (510, .inr (.inl (0, ps)))])) (ob := []) rfl (ob_n) ?_
  refine J.callS F hJ lk_X7_66 st_X7_in (by decide +kernel) (c_in k 0 2) (fun k => k) (by decide) [] rfl rfl rfl (by decide) rfl (show List.Nodup [] by decide) (fun r ws' hk hp => ?_)
  obtain ⟨rfl, rfl⟩ := hp
  show J x 4 (ad, 0, 0) (6, [(0, .ref 500), (1, .int k)], [.int (b2i (inB k 0 2))], [(500, mO (zp z n)), (502, a14 h), (505, a28 b), (506, a28 c), (510, .inr (.inl (0, ps)))])
  rw [hK]
  refine J.run (sn_X7_laws F) 2 [1] (S' := (13, [(0, .ref 500), (1, .int k)], [.ref 500], [(500, mO (zp z n)), (502, a14 h), (505, a28 b), (506, a28 c), (510, .inr (.inl (0, ps)))])) (ob := [¬ (1 : Int32) = 0]) rfl (ob_c (by decide) ob_n) ?_
  refine J.callV F hJ lk_X7_183 im_X7_copies se_X7_copies (by decide +kernel) (c_copies (zp z n) b c) (fun k => k) (by decide) [] rfl rfl rfl rfl rfl (by decide) rfl (show List.Nodup [500, 505, 506] by decide) (fun r ws' hk hp => ?_)
  obtain ⟨rfl, rfl⟩ := hp
  show J x 4 (ad, 0, 0) (16, [(0, .ref 500), (1, .int k)], [], [(500, mO (zp z n)), (502, a14 h), (505, a28 b), (506, a28 (mcp b)), (510, .inr (.inl (0, ps)))])
  refine J.run (sn_X7_laws F) 6 [0] (S' := (24, [(0, .ref 500), (1, .int k)], [.ref 500], [(500, mO (zp z n)), (502, a14 h), (505, a28 b), (506, .inr (.inl (0, [k, mcp b 1, mcp b 2, mcp b 3, mcp b 4, mcp b 5, mcp b 6, mcp b 7, mcp b 8, mcp b 9, mcp b 10, mcp b 11, mcp b 12, mcp b 13, mcp b 14, mcp b 15, mcp b 16, mcp b 17, mcp b 18, mcp b 19, mcp b 20, mcp b 21, mcp b 22, mcp b 23, mcp b 24, mcp b 25, mcp b 26, mcp b 27]))), (510, .inr (.inl (0, ps)))])) (ob := [ix 0 0 28]) rfl (ob_c (ix_of rfl) ob_n) ?_
  refine J.callV F hJ lk_X7_206 im_X7_runs se_X7_runs (by decide +kernel) (c_runs z h (stk (mcp b) k) ps hps n hnn hn hst) (fun k => k) (by decide) [] rfl rfl rfl rfl rfl (by decide) rfl (show List.Nodup [500, 502, 506, 510] by decide) (fun r ws' hk hp => ?_)
  obtain ⟨rfl, rfl⟩ := hp
  show J x 4 (ad, 0, 0) (27, [(0, .ref 500), (1, .int k)], [], [(500, mO (zp z n)), (502, a14 h), (505, a28 b), (506, a28 (mrB h ps (stk (mcp b) k) n)), (510, .inr (.inl (0, ps)))])
  by_cases h1 : (h 0) ≤ 0
  · skip
    refine J.run (sn_X7_laws F) 10 [0, 1] (S' := (69, [(0, .ref 500), (1, .int k), (2, .int 0), (3, .int 0)], [], [(500, mO (zp z n)), (502, a14 h), (505, a28 b), (506, a28 (mrB h ps (stk (mcp b) k) n)), (510, .inr (.inl (0, ps)))])) (ob := [ix 0 0 14, (h 0) ≤ 0]) rfl (ob_c (ix_of rfl) (ob_c h1 ob_n)) ?_
    refine J.run (sn_X7_laws F) 1 [] (S' := (70, [(0, .ref 500), (1, .int k), (2, .int 0), (3, .int 0)], [.int 0], [(500, mO (zp z n)), (502, a14 h), (505, a28 b), (506, a28 (mrB h ps (stk (mcp b) k) n)), (510, .inr (.inl (0, ps)))])) (ob := []) rfl (ob_n) ?_
    exact J.iret F hR (Nat.le_refl _) (Nat.le_refl _) rfl rfl (by decide +kernel) ⟨rfl, keq [500, 502, 505, 506, 510] rfl rfl, by simp only [lwS, h1, f_le h1, (le_lit h1 (by decide : (0 : Int32) ≤ 1)), (le_lit h1 (by decide : (0 : Int32) ≤ 2)), (le_lit h1 (by decide : (0 : Int32) ≤ 3)), ↓reduceIte, ite_self, Bool.false_eq_true, cond_true, cond_false, Bool.true_and, Bool.false_and, Bool.and_true, Bool.and_false, Bool.true_or, Bool.false_or, Bool.or_true, Bool.or_false, Bool.not_true, Bool.not_false, decide_true, decide_false, b2i_t, b2i_f], rfl⟩
  · skip
    refine J.run (sn_X7_laws F) 10 [0, 0] (S' := (41, [(0, .ref 500), (1, .int k), (2, .int 0), (3, .int 0)], [], [(500, mO (zp z n)), (502, a14 h), (505, a28 b), (506, a28 (mrB h ps (stk (mcp b) k) n)), (510, .inr (.inl (0, ps)))])) (ob := [ix 0 0 14, ¬ (h 0) ≤ 0]) rfl (ob_c (ix_of rfl) (ob_c h1 ob_n)) ?_
    refine J.run (sn_X7_laws F) 10 [21] (S' := (57, [(0, .ref 500), (1, .int k), (2, .int 0), (3, .int 0)], [.int 21, .ref 505, .int (mrB h ps (stk (mcp b) k) n 21), .int 0], [(500, mO (zp z n)), (502, a14 h), (505, a28 b), (506, a28 (mrB h ps (stk (mcp b) k) n)), (510, .inr (.inl (0, ps)))])) (ob := [ix 21 21 28]) rfl (ob_c (ix_of rfl) ob_n) ?_
    refine J.run (sn_X7_laws F) 10 [21] (S' := (33, [(0, .ref 500), (1, .int k), (2, .int (0 + ((mrB h ps (stk (mcp b) k) n 21) - (b 21)))), (3, .int 1)], [.ref 500, .int 1], [(500, mO (zp z n)), (502, a14 h), (505, a28 b), (506, a28 (mrB h ps (stk (mcp b) k) n)), (510, .inr (.inl (0, ps)))])) (ob := [ix 21 21 28]) rfl (ob_c (ix_of rfl) ob_n) ?_
    by_cases h2 : (h 0) ≤ 1
    · skip
      refine J.run (sn_X7_laws F) 5 [0, 1] (S' := (70, [(0, .ref 500), (1, .int k), (2, .int (0 + ((mrB h ps (stk (mcp b) k) n 21) - (b 21)))), (3, .int 1)], [.int (0 + ((mrB h ps (stk (mcp b) k) n 21) - (b 21)))], [(500, mO (zp z n)), (502, a14 h), (505, a28 b), (506, a28 (mrB h ps (stk (mcp b) k) n)), (510, .inr (.inl (0, ps)))])) (ob := [ix 0 0 14, (h 0) ≤ 1]) rfl (ob_c (ix_of rfl) (ob_c h2 ob_n)) ?_
      exact J.iret F hR (Nat.le_refl _) (Nat.le_refl _) rfl rfl (by decide +kernel) ⟨rfl, keq [500, 502, 505, 506, 510] rfl rfl, by simp only [lwS, h1, f_nle h1, h2, f_le h2, (le_lit h2 (by decide : (1 : Int32) ≤ 2)), (le_lit h2 (by decide : (1 : Int32) ≤ 3)), ↓reduceIte, ite_self, Bool.false_eq_true, cond_true, cond_false, Bool.true_and, Bool.false_and, Bool.and_true, Bool.and_false, Bool.true_or, Bool.false_or, Bool.or_true, Bool.or_false, Bool.not_true, Bool.not_false, decide_true, decide_false, b2i_t, b2i_f], rfl⟩
    · skip
      refine J.run (sn_X7_laws F) 10 [0, 0] (S' := (50, [(0, .ref 500), (1, .int k), (2, .int (0 + ((mrB h ps (stk (mcp b) k) n 21) - (b 21)))), (3, .int 1)], [.int 22, .ref 506, .int (0 + ((mrB h ps (stk (mcp b) k) n 21) - (b 21)))], [(500, mO (zp z n)), (502, a14 h), (505, a28 b), (506, a28 (mrB h ps (stk (mcp b) k) n)), (510, .inr (.inl (0, ps)))])) (ob := [ix 0 0 14, ¬ (h 0) ≤ 1]) rfl (ob_c (ix_of rfl) (ob_c h2 ob_n)) ?_
      refine J.run (sn_X7_laws F) 10 [22, 22] (S' := (63, [(0, .ref 500), (1, .int k), (2, .int ((0 + ((mrB h ps (stk (mcp b) k) n 21) - (b 21))) + ((mrB h ps (stk (mcp b) k) n 22) - (b 22)))), (3, .int 1)], [], [(500, mO (zp z n)), (502, a14 h), (505, a28 b), (506, a28 (mrB h ps (stk (mcp b) k) n)), (510, .inr (.inl (0, ps)))])) (ob := [ix 22 22 28, ix 22 22 28]) rfl (ob_c (ix_of rfl) (ob_c (ix_of rfl) ob_n)) ?_
      by_cases h3 : (h 0) ≤ 2
      · skip
        refine J.run (sn_X7_laws F) 9 [0, 1] (S' := (70, [(0, .ref 500), (1, .int k), (2, .int ((0 + ((mrB h ps (stk (mcp b) k) n 21) - (b 21))) + ((mrB h ps (stk (mcp b) k) n 22) - (b 22)))), (3, .int 2)], [.int ((0 + ((mrB h ps (stk (mcp b) k) n 21) - (b 21))) + ((mrB h ps (stk (mcp b) k) n 22) - (b 22)))], [(500, mO (zp z n)), (502, a14 h), (505, a28 b), (506, a28 (mrB h ps (stk (mcp b) k) n)), (510, .inr (.inl (0, ps)))])) (ob := [ix 0 0 14, (h 0) ≤ 2]) rfl (ob_c (ix_of rfl) (ob_c h3 ob_n)) ?_
        exact J.iret F hR (Nat.le_refl _) (Nat.le_refl _) rfl rfl (by decide +kernel) ⟨rfl, keq [500, 502, 505, 506, 510] rfl rfl, by simp only [lwS, h1, f_nle h1, h2, f_nle h2, h3, f_le h3, (le_lit h3 (by decide : (2 : Int32) ≤ 3)), ↓reduceIte, ite_self, Bool.false_eq_true, cond_true, cond_false, Bool.true_and, Bool.false_and, Bool.and_true, Bool.and_false, Bool.true_or, Bool.false_or, Bool.or_true, Bool.or_false, Bool.not_true, Bool.not_false, decide_true, decide_false, b2i_t, b2i_f], rfl⟩
      · skip
        refine J.run (sn_X7_laws F) 10 [0, 0] (S' := (43, [(0, .ref 500), (1, .int k), (2, .int ((0 + ((mrB h ps (stk (mcp b) k) n 21) - (b 21))) + ((mrB h ps (stk (mcp b) k) n 22) - (b 22)))), (3, .int 2)], [.ref 500, .int ((0 + ((mrB h ps (stk (mcp b) k) n 21) - (b 21))) + ((mrB h ps (stk (mcp b) k) n 22) - (b 22)))], [(500, mO (zp z n)), (502, a14 h), (505, a28 b), (506, a28 (mrB h ps (stk (mcp b) k) n)), (510, .inr (.inl (0, ps)))])) (ob := [ix 0 0 14, ¬ (h 0) ≤ 2]) rfl (ob_c (ix_of rfl) (ob_c h3 ob_n)) ?_
        refine J.run (sn_X7_laws F) 10 [23] (S' := (59, [(0, .ref 500), (1, .int k), (2, .int ((0 + ((mrB h ps (stk (mcp b) k) n 21) - (b 21))) + ((mrB h ps (stk (mcp b) k) n 22) - (b 22)))), (3, .int 2)], [.int 23, .ref 505, .int (mrB h ps (stk (mcp b) k) n 23), .int ((0 + ((mrB h ps (stk (mcp b) k) n 21) - (b 21))) + ((mrB h ps (stk (mcp b) k) n 22) - (b 22)))], [(500, mO (zp z n)), (502, a14 h), (505, a28 b), (506, a28 (mrB h ps (stk (mcp b) k) n)), (510, .inr (.inl (0, ps)))])) (ob := [ix 23 23 28]) rfl (ob_c (ix_of rfl) ob_n) ?_
        refine J.run (sn_X7_laws F) 10 [23] (S' := (37, [(0, .ref 500), (1, .int k), (2, .int (((0 + ((mrB h ps (stk (mcp b) k) n 21) - (b 21))) + ((mrB h ps (stk (mcp b) k) n 22) - (b 22))) + ((mrB h ps (stk (mcp b) k) n 23) - (b 23)))), (3, .int 3)], [.int 0, .ref 502, .int 3], [(500, mO (zp z n)), (502, a14 h), (505, a28 b), (506, a28 (mrB h ps (stk (mcp b) k) n)), (510, .inr (.inl (0, ps)))])) (ob := [ix 23 23 28]) rfl (ob_c (ix_of rfl) ob_n) ?_
        by_cases h4 : (h 0) ≤ 3
        · skip
          refine J.run (sn_X7_laws F) 3 [0, 1] (S' := (70, [(0, .ref 500), (1, .int k), (2, .int (((0 + ((mrB h ps (stk (mcp b) k) n 21) - (b 21))) + ((mrB h ps (stk (mcp b) k) n 22) - (b 22))) + ((mrB h ps (stk (mcp b) k) n 23) - (b 23)))), (3, .int 3)], [.int (((0 + ((mrB h ps (stk (mcp b) k) n 21) - (b 21))) + ((mrB h ps (stk (mcp b) k) n 22) - (b 22))) + ((mrB h ps (stk (mcp b) k) n 23) - (b 23)))], [(500, mO (zp z n)), (502, a14 h), (505, a28 b), (506, a28 (mrB h ps (stk (mcp b) k) n)), (510, .inr (.inl (0, ps)))])) (ob := [ix 0 0 14, (h 0) ≤ 3]) rfl (ob_c (ix_of rfl) (ob_c h4 ob_n)) ?_
          exact J.iret F hR (Nat.le_refl _) (Nat.le_refl _) rfl rfl (by decide +kernel) ⟨rfl, keq [500, 502, 505, 506, 510] rfl rfl, by simp only [lwS, h1, f_nle h1, h2, f_nle h2, h3, f_nle h3, h4, f_le h4, ↓reduceIte, ite_self, Bool.false_eq_true, cond_true, cond_false, Bool.true_and, Bool.false_and, Bool.and_true, Bool.and_false, Bool.true_or, Bool.false_or, Bool.or_true, Bool.or_false, Bool.not_true, Bool.not_false, decide_true, decide_false, b2i_t, b2i_f], rfl⟩
        · skip
          refine J.run (sn_X7_laws F) 10 [0, 0, 24] (S' := (52, [(0, .ref 500), (1, .int k), (2, .int (((0 + ((mrB h ps (stk (mcp b) k) n 21) - (b 21))) + ((mrB h ps (stk (mcp b) k) n 22) - (b 22))) + ((mrB h ps (stk (mcp b) k) n 23) - (b 23)))), (3, .int 3)], [.ref 500, .int (mrB h ps (stk (mcp b) k) n 24), .int (((0 + ((mrB h ps (stk (mcp b) k) n 21) - (b 21))) + ((mrB h ps (stk (mcp b) k) n 22) - (b 22))) + ((mrB h ps (stk (mcp b) k) n 23) - (b 23)))], [(500, mO (zp z n)), (502, a14 h), (505, a28 b), (506, a28 (mrB h ps (stk (mcp b) k) n)), (510, .inr (.inl (0, ps)))])) (ob := [ix 0 0 14, ¬ (h 0) ≤ 3, ix 24 24 28]) rfl (ob_c (ix_of rfl) (ob_c h4 (ob_c (ix_of rfl) ob_n))) ?_
          refine J.run (sn_X7_laws F) 10 [24] (S' := (31, [(0, .ref 500), (1, .int k), (2, .int ((((0 + ((mrB h ps (stk (mcp b) k) n 21) - (b 21))) + ((mrB h ps (stk (mcp b) k) n 22) - (b 22))) + ((mrB h ps (stk (mcp b) k) n 23) - (b 23))) + ((mrB h ps (stk (mcp b) k) n 24) - (b 24)))), (3, .int 4)], [], [(500, mO (zp z n)), (502, a14 h), (505, a28 b), (506, a28 (mrB h ps (stk (mcp b) k) n)), (510, .inr (.inl (0, ps)))])) (ob := [ix 24 24 28]) rfl (ob_c (ix_of rfl) ob_n) ?_
          refine J.run (sn_X7_laws F) 7 [0, 1] (S' := (70, [(0, .ref 500), (1, .int k), (2, .int ((((0 + ((mrB h ps (stk (mcp b) k) n 21) - (b 21))) + ((mrB h ps (stk (mcp b) k) n 22) - (b 22))) + ((mrB h ps (stk (mcp b) k) n 23) - (b 23))) + ((mrB h ps (stk (mcp b) k) n 24) - (b 24)))), (3, .int 4)], [.int ((((0 + ((mrB h ps (stk (mcp b) k) n 21) - (b 21))) + ((mrB h ps (stk (mcp b) k) n 22) - (b 22))) + ((mrB h ps (stk (mcp b) k) n 23) - (b 23))) + ((mrB h ps (stk (mcp b) k) n 24) - (b 24)))], [(500, mO (zp z n)), (502, a14 h), (505, a28 b), (506, a28 (mrB h ps (stk (mcp b) k) n)), (510, .inr (.inl (0, ps)))])) (ob := [ix 0 0 14, (h 0) ≤ 4]) rfl (ob_c (ix_of rfl) (ob_c hn ob_n)) ?_
          exact J.iret F hR (Nat.le_refl _) (Nat.le_refl _) rfl rfl (by decide +kernel) ⟨rfl, keq [500, 502, 505, 506, 510] rfl rfl, by simp only [lwS, h1, f_nle h1, h2, f_nle h2, h3, f_nle h3, h4, f_nle h4, ↓reduceIte, ite_self, Bool.false_eq_true, cond_true, cond_false, Bool.true_and, Bool.false_and, Bool.and_true, Bool.and_false, Bool.true_or, Bool.false_or, Bool.or_true, Bool.or_false, Bool.not_true, Bool.not_false, decide_true, decide_false, b2i_t, b2i_f], rfl⟩
