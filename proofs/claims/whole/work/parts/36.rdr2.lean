theorem rnS_le {ty : List Int32} {t : Nat} {lo hi : Int32} {q : Nat × Int32 × Int32} (h : q.1 ≤ t) : (rnS ty t lo hi q).1 ≤ t := skq_le (skq_le h)
def reS (ty : List Int32) (t : Nat) (q : Nat × Int32 × Int32) : Nat × Int32 × Int32 := bif btw ty t (skq ty t 32 32 q.1) 59 59 then (skq ty t 32 32 q.1 + 1, q.2) else blS 1 (skq ty t 32 32 q.1) (skq ty t 32 32 q.1, q.2)
theorem btw_lt {ty : List Int32} {t a : Nat} {lo hi : Int32} (h : btw ty t a lo hi = true) : a < t := of_decide_eq_true (Bool.and_eq_true_iff.mp h).1
theorem reS_le {ty : List Int32} {t : Nat} {q : Nat × Int32 × Int32} (h : q.1 ≤ t) : (reS ty t q).1 ≤ t := by
  unfold reS
  cases hb : btw ty t (skq ty t 32 32 q.1) 59 59
  · exact skq_le h
  · exact btw_lt hb
def wdM (ty : List Int32) (s : Nat) : Nat → List Int32 → Bool
  | _, [] => true
  | k, c :: l => decide (gi ty (s + k) = c) && wdM ty s (k + 1) l
def wdB (ty : List Int32) (s e i : Nat) : Bool := decide (e - s = jSL.getD i 0) && wdM ty s 0 (jSB.getD i [])
def kdB (ty : List Int32) (s e : Nat) : Bool := wdB ty s e 3 || wdB ty s e 4 || wdB ty s e 5
def kdV (ty : List Int32) (s e : Nat) : Int32 := bif wdB ty s e 3 then 0 else bif wdB ty s e 4 then 1 else bif wdB ty s e 5 then 2 else 0
def rkS (ty : List Int32) (t : Nat) (q : Nat × Int32 × Int32) : Nat × Int32 × Int32 := bif kdB ty (skq ty t 32 32 q.1) (skq ty t 97 122 (skq ty t 32 32 q.1)) then (skq ty t 97 122 (skq ty t 32 32 q.1), q.2) else blS 1 (skq ty t 32 32 q.1) (skq ty t 97 122 (skq ty t 32 32 q.1), q.2)
def rkv (ty : List Int32) (t a : Nat) : Int32 := kdV ty (skq ty t 32 32 a) (skq ty t 97 122 (skq ty t 32 32 a))
theorem rkS_le {ty : List Int32} {t : Nat} {q : Nat × Int32 × Int32} (h : q.1 ≤ t) : (rkS ty t q).1 ≤ t := by
  unfold rkS
  cases kdB ty (skq ty t 32 32 q.1) (skq ty t 97 122 (skq ty t 32 32 q.1))
  · exact skq_le (skq_le h)
  · exact skq_le (skq_le h)
theorem wd_0 (ty : List Int32) (s e : Nat) : wdB ty s e 0 = (decide (e - s = 6) && (decide (gi ty (s + 0) = 109) && (decide (gi ty (s + 1) = 101) && (decide (gi ty (s + 2) = 109) && (decide (gi ty (s + 3) = 98) && (decide (gi ty (s + 4) = 101) && (decide (gi ty (s + 5) = 114) && true))))))) := rfl
theorem chV_0_0 : chV 0 0 = 109 := by decide +kernel
theorem chn_0_0 : narrow .char (.int (chV 0 0)) = .int (chV 0 0) := by rw [chV_0_0]; rfl
theorem chV_0_1 : chV 0 1 = 101 := by decide +kernel
theorem chn_0_1 : narrow .char (.int (chV 0 1)) = .int (chV 0 1) := by rw [chV_0_1]; rfl
theorem chV_0_2 : chV 0 2 = 109 := by decide +kernel
theorem chn_0_2 : narrow .char (.int (chV 0 2)) = .int (chV 0 2) := by rw [chV_0_2]; rfl
theorem chV_0_3 : chV 0 3 = 98 := by decide +kernel
theorem chn_0_3 : narrow .char (.int (chV 0 3)) = .int (chV 0 3) := by rw [chV_0_3]; rfl
theorem chV_0_4 : chV 0 4 = 101 := by decide +kernel
theorem chn_0_4 : narrow .char (.int (chV 0 4)) = .int (chV 0 4) := by rw [chV_0_4]; rfl
theorem chV_0_5 : chV 0 5 = 114 := by decide +kernel
theorem chn_0_5 : narrow .char (.int (chV 0 5)) = .int (chV 0 5) := by rw [chV_0_5]; rfl
theorem sln_0 : (nI (jSL.getD 0 0)) >>> ((0 : Int32) &&& 31) = 6 := by decide +kernel
theorem wd_1 (ty : List Int32) (s e : Nat) : wdB ty s e 1 = (decide (e - s = 3) && (decide (gi ty (s + 0) = 108) && (decide (gi ty (s + 1) = 97) && (decide (gi ty (s + 2) = 119) && true)))) := rfl
theorem chV_1_0 : chV 1 0 = 108 := by decide +kernel
theorem chn_1_0 : narrow .char (.int (chV 1 0)) = .int (chV 1 0) := by rw [chV_1_0]; rfl
theorem chV_1_1 : chV 1 1 = 97 := by decide +kernel
theorem chn_1_1 : narrow .char (.int (chV 1 1)) = .int (chV 1 1) := by rw [chV_1_1]; rfl
theorem chV_1_2 : chV 1 2 = 119 := by decide +kernel
theorem chn_1_2 : narrow .char (.int (chV 1 2)) = .int (chV 1 2) := by rw [chV_1_2]; rfl
theorem sln_1 : (nI (jSL.getD 1 0)) >>> ((0 : Int32) &&& 31) = 3 := by decide +kernel
theorem wd_2 (ty : List Int32) (s e : Nat) : wdB ty s e 2 = (decide (e - s = 5) && (decide (gi ty (s + 0) = 99) && (decide (gi ty (s + 1) = 111) && (decide (gi ty (s + 2) = 117) && (decide (gi ty (s + 3) = 103) && (decide (gi ty (s + 4) = 104) && true)))))) := rfl
theorem chV_2_0 : chV 2 0 = 99 := by decide +kernel
theorem chn_2_0 : narrow .char (.int (chV 2 0)) = .int (chV 2 0) := by rw [chV_2_0]; rfl
theorem chV_2_1 : chV 2 1 = 111 := by decide +kernel
theorem chn_2_1 : narrow .char (.int (chV 2 1)) = .int (chV 2 1) := by rw [chV_2_1]; rfl
theorem chV_2_2 : chV 2 2 = 117 := by decide +kernel
theorem chn_2_2 : narrow .char (.int (chV 2 2)) = .int (chV 2 2) := by rw [chV_2_2]; rfl
theorem chV_2_3 : chV 2 3 = 103 := by decide +kernel
theorem chn_2_3 : narrow .char (.int (chV 2 3)) = .int (chV 2 3) := by rw [chV_2_3]; rfl
theorem chV_2_4 : chV 2 4 = 104 := by decide +kernel
theorem chn_2_4 : narrow .char (.int (chV 2 4)) = .int (chV 2 4) := by rw [chV_2_4]; rfl
theorem sln_2 : (nI (jSL.getD 2 0)) >>> ((0 : Int32) &&& 31) = 5 := by decide +kernel
theorem wd_3 (ty : List Int32) (s e : Nat) : wdB ty s e 3 = (decide (e - s = 7) && (decide (gi ty (s + 0) = 115) && (decide (gi ty (s + 1) = 116) && (decide (gi ty (s + 2) = 111) && (decide (gi ty (s + 3) = 112) && (decide (gi ty (s + 4) = 112) && (decide (gi ty (s + 5) = 101) && (decide (gi ty (s + 6) = 100) && true)))))))) := rfl
theorem chV_3_0 : chV 3 0 = 115 := by decide +kernel
theorem chn_3_0 : narrow .char (.int (chV 3 0)) = .int (chV 3 0) := by rw [chV_3_0]; rfl
theorem chV_3_1 : chV 3 1 = 116 := by decide +kernel
theorem chn_3_1 : narrow .char (.int (chV 3 1)) = .int (chV 3 1) := by rw [chV_3_1]; rfl
theorem chV_3_2 : chV 3 2 = 111 := by decide +kernel
theorem chn_3_2 : narrow .char (.int (chV 3 2)) = .int (chV 3 2) := by rw [chV_3_2]; rfl
theorem chV_3_3 : chV 3 3 = 112 := by decide +kernel
theorem chn_3_3 : narrow .char (.int (chV 3 3)) = .int (chV 3 3) := by rw [chV_3_3]; rfl
theorem chV_3_4 : chV 3 4 = 112 := by decide +kernel
theorem chn_3_4 : narrow .char (.int (chV 3 4)) = .int (chV 3 4) := by rw [chV_3_4]; rfl
theorem chV_3_5 : chV 3 5 = 101 := by decide +kernel
theorem chn_3_5 : narrow .char (.int (chV 3 5)) = .int (chV 3 5) := by rw [chV_3_5]; rfl
theorem chV_3_6 : chV 3 6 = 100 := by decide +kernel
theorem chn_3_6 : narrow .char (.int (chV 3 6)) = .int (chV 3 6) := by rw [chV_3_6]; rfl
theorem sln_3 : (nI (jSL.getD 3 0)) >>> ((0 : Int32) &&& 31) = 7 := by decide +kernel
theorem wd_4 (ty : List Int32) (s e : Nat) : wdB ty s e 4 = (decide (e - s = 5) && (decide (gi ty (s + 0) = 98) && (decide (gi ty (s + 1) = 101) && (decide (gi ty (s + 2) = 103) && (decide (gi ty (s + 3) = 97) && (decide (gi ty (s + 4) = 110) && true)))))) := rfl
theorem chV_4_0 : chV 4 0 = 98 := by decide +kernel
theorem chn_4_0 : narrow .char (.int (chV 4 0)) = .int (chV 4 0) := by rw [chV_4_0]; rfl
theorem chV_4_1 : chV 4 1 = 101 := by decide +kernel
theorem chn_4_1 : narrow .char (.int (chV 4 1)) = .int (chV 4 1) := by rw [chV_4_1]; rfl
theorem chV_4_2 : chV 4 2 = 103 := by decide +kernel
theorem chn_4_2 : narrow .char (.int (chV 4 2)) = .int (chV 4 2) := by rw [chV_4_2]; rfl
theorem chV_4_3 : chV 4 3 = 97 := by decide +kernel
theorem chn_4_3 : narrow .char (.int (chV 4 3)) = .int (chV 4 3) := by rw [chV_4_3]; rfl
theorem chV_4_4 : chV 4 4 = 110 := by decide +kernel
theorem chn_4_4 : narrow .char (.int (chV 4 4)) = .int (chV 4 4) := by rw [chV_4_4]; rfl
theorem sln_4 : (nI (jSL.getD 4 0)) >>> ((0 : Int32) &&& 31) = 5 := by decide +kernel
theorem wd_5 (ty : List Int32) (s e : Nat) : wdB ty s e 5 = (decide (e - s = 3) && (decide (gi ty (s + 0) = 97) && (decide (gi ty (s + 1) = 108) && (decide (gi ty (s + 2) = 108) && true)))) := rfl
theorem chV_5_0 : chV 5 0 = 97 := by decide +kernel
theorem chn_5_0 : narrow .char (.int (chV 5 0)) = .int (chV 5 0) := by rw [chV_5_0]; rfl
theorem chV_5_1 : chV 5 1 = 108 := by decide +kernel
theorem chn_5_1 : narrow .char (.int (chV 5 1)) = .int (chV 5 1) := by rw [chV_5_1]; rfl
theorem chV_5_2 : chV 5 2 = 108 := by decide +kernel
theorem chn_5_2 : narrow .char (.int (chV 5 2)) = .int (chV 5 2) := by rw [chV_5_2]; rfl
theorem sln_5 : (nI (jSL.getD 5 0)) >>> ((0 : Int32) &&& 31) = 3 := by decide +kernel
theorem nI_k (s k : Nat) : nI s + Int32.ofNat k = nI (s + k) := by
  show Int32.ofNat s + Int32.ofNat k = Int32.ofNat (s + k)
  rw [← Int32.ofNat_add]
def hcg (h : Nat → Int32) (v : Int32) : Nat → Int32 := gi [h 0, v, h 2, h 3, h 4, h 5, h 6, h 7, h 8, h 9, h 10, h 11, h 12, h 13, h 14, h 15, h 16]
def hlw (h : Nat → Int32) (x y z : Int32) : Nat → Int32 := gi [h 0, h 1, h 2, h 3, h 4, h 5, h 6, h 7, h 8, h 9, h 10, h 11, h 12, h 13, x, y, z]
def stH (h : Nat → Int32) (m : Nat) (x y z : Int32) : Nat → Int32 := fun k => bif Nat.beq k 0 then nI (m + 1) else bif Nat.beq k (2 + m) then x else bif Nat.beq k (6 + m) then y else bif Nat.beq k (10 + m) then z else h k
theorem bF_nz {fd c : Int32} (h : ¬ fd = 0) : ¬ bF fd c = 0 := by unfold bF; rw [if_neg h]; exact h
theorem blS_nz {c : Int32} {p : Nat} {q : Nat × Int32 × Int32} (h : ¬ c = 0) : ¬ (blS c p q).2.2 = 0 := by
  show ¬ bF q.2.2 c = 0
  unfold bF
  by_cases e : q.2.2 = 0
  · rw [if_pos e]; exact h
  · rw [if_neg e]; exact e
theorem rnS_nz {ty : List Int32} {t : Nat} {lo hi : Int32} {q : Nat × Int32 × Int32} (h : ¬ q.2.2 = 0) : ¬ (rnS ty t lo hi q).2.2 = 0 := bF_nz h
theorem reS_nz {ty : List Int32} {t : Nat} {q : Nat × Int32 × Int32} (h : ¬ q.2.2 = 0) : ¬ (reS ty t q).2.2 = 0 := by
  unfold reS
  cases btw ty t (skq ty t 32 32 q.1) 59 59
  · exact bF_nz h
  · exact h
set_option maxHeartbeats 4000000 in
set_option maxRecDepth 100000 in
theorem c_rend (ty : List Int32) (hty : ty.length = 400) (t : Nat) (ht : t ≤ 400) (a : Nat) (ha : a ≤ t) (pl fd lt ct : Int32) : Ctr mk_X4_readEnd 3 [.ref 20] [(20, rO t a pl fd lt ct), (21, .inr (.inl (1, ty)))] (fun r u => r = none ∧ u = [(20, rO t ((reS ty t (a, pl, fd)).1) ((reS ty t (a, pl, fd)).2.1) ((reS ty t (a, pl, fd)).2.2) lt ct), (21, .inr (.inl (1, ty)))]) := by
  refine Ctr.of rfl (Nat.le_of_ble_eq_true rfl) ?_
  intro x ad F hJ hR
  refine J.run (sn_X4_readEnd F) 1 [] (S' := (1, [(0, .ref 20)], [.ref 20], [(20, rO t a pl fd lt ct), (21, .inr (.inl (1, ty)))])) (ob := []) rfl (ob_n) ?_
  have hsk1 : (skq ty t 32 32 a) ≤ t := skq_le (by omega)
  have hsg1 := skq_ge ty t 32 32 a
  refine J.callV F hJ lk_X4_45 im_X4_skipBlanks se_X4_skipBlanks (by decide +kernel) (c_skipBlanks ty hty t ht a (by omega) pl fd lt ct) (fun k => k) (by omega) [] rfl rfl rfl rfl rfl (by decide) rfl (show List.Nodup [20, 21] by decide) (fun r ws' hk hp => ?_)
  obtain ⟨rfl, rfl⟩ := hp
  show J x 1 (ad, 0, 0) (4, [(0, .ref 20)], [], [(20, rO t (skq ty t 32 32 a) pl fd lt ct), (21, .inr (.inl (1, ty)))])
  refine J.run (sn_X4_readEnd F) 3 [] (S' := (9, [(0, .ref 20)], [.int 59, .int 59, .ref 20], [(20, rO t (skq ty t 32 32 a) pl fd lt ct), (21, .inr (.inl (1, ty)))])) (ob := []) rfl (ob_n) ?_
  refine J.callV F hJ lk_X4_113 im_X4_isBetween se_X4_isBetween (by decide +kernel) (c_isB ty hty t ht (skq ty t 32 32 a) (by omega) pl fd lt ct 59 59) (fun k => k) (by omega) [] rfl rfl rfl rfl rfl (by decide) rfl (show List.Nodup [20, 21] by decide) (fun r ws' hk hp => ?_)
  obtain ⟨rfl, rfl⟩ := hp
  show J x 1 (ad, 0, 0) (12, [(0, .ref 20)], [.int (b2i (btw ty t (skq ty t 32 32 a) 59 59))], [(20, rO t (skq ty t 32 32 a) pl fd lt ct), (21, .inr (.inl (1, ty)))])
  cases hb2 : btw ty t (skq ty t 32 32 a) 59 59
  · skip
    refine J.run (sn_X4_readEnd F) 5 [1] (S' := (34, [(0, .ref 20)], [.int (nI (skq ty t 32 32 a)), .int 1, .ref 20], [(20, rO t (skq ty t 32 32 a) pl fd lt ct), (21, .inr (.inl (1, ty)))])) (ob := [(0 : Int32) = 0]) rfl (ob_c (by decide) ob_n) ?_
    refine J.callV F hJ lk_X4_74 im_X4_blame se_X4_blame (by decide +kernel) (c_blame t (skq ty t 32 32 a) pl fd lt ct 1 (nI (skq ty t 32 32 a)) (by decide)) (fun k => k) (by omega) [] rfl rfl rfl rfl rfl (by decide) rfl (show List.Nodup [20] by decide) (fun r ws' hk hp => ?_)
    obtain ⟨rfl, rfl⟩ := hp
    show J x 1 (ad, 0, 0) (37, [(0, .ref 20)], [], [(20, rO t (skq ty t 32 32 a) (bP fd 1 pl (nI (skq ty t 32 32 a))) (bF fd 1) lt ct), (21, .inr (.inl (1, ty)))])
    exact J.vret F hR (Nat.le_refl _) (Nat.le_refl _) rfl (by decide +kernel) ⟨rfl, keq [20, 21] rfl rfl, rfl, by rw [show reS ty t (a, pl, fd) = blS 1 (skq ty t 32 32 a) (skq ty t 32 32 a, pl, fd) from by show (bif btw ty t (skq ty t 32 32 a) 59 59 then _ else _) = _; rw [hb2]; rfl]; simp only [nI_1, rO, blS]⟩
  · skip
    refine J.run (sn_X4_readEnd F) 8 [0] (S' := (37, [(0, .ref 20)], [], [(20, .inl (4, [.ref 25, .int (nI t), .int pl, .ref 21, .int ((nI (skq ty t 32 32 a)) + 1), .int fd, .int lt, .int ct])), (21, .inr (.inl (1, ty)))])) (ob := [¬ (1 : Int32) = 0]) rfl (ob_c (by decide) ob_n) ?_
    exact J.vret F hR (Nat.le_refl _) (Nat.le_refl _) rfl (by decide +kernel) ⟨rfl, keq [20, 21] rfl rfl, rfl, by rw [show reS ty t (a, pl, fd) = (skq ty t 32 32 a + 1, pl, fd) from by show (bif btw ty t (skq ty t 32 32 a) 59 59 then _ else _) = _; rw [hb2]; rfl]; simp only [nI_1, rO, blS]⟩
set_option maxHeartbeats 4000000 in
set_option maxRecDepth 100000 in
theorem c_isW0 (ty : List Int32) (hty : ty.length = 400) (t : Nat) (s e : Nat) (hse : s ≤ e) (he : e ≤ 400) (pl fd lt ct : Int32) : Ctr mk_X4_isWord 5 [.ref 20, .int (nI s), .ref 1000] [(20, rO t e pl fd lt ct), (21, .inr (.inl (1, ty)))] (fun r u => r = some (.int (b2i (wdB ty s e 0))) ∧ u = [(20, rO t e pl fd lt ct), (21, .inr (.inl (1, ty)))]) := by
  refine Ctr.of rfl (Nat.le_of_ble_eq_true rfl) ?_
  intro x ad F hJ hR
  by_cases hn : e - s = 6
  · skip
    refine J.run (sn_X4_isWord F) 10 [0, 0] (S' := (20, [(0, .ref 20), (1, .int (nI s)), (2, .ref 1000)], [.int ((nI e) - (nI s))], [(20, rO t e pl fd lt ct), (21, .inr (.inl (1, ty)))])) (ob := [¬ (nI s) < 0, ¬ 400 < (nI e)]) rfl (ob_c (n_nlt0 (by omega)) (ob_c (n_nlt (a := 400) (by omega) (by omega) he) ob_n)) ?_
    refine J.run (sn_X4_isWord F) 1 [] (S' := (21, [(0, .ref 20), (1, .int (nI s)), (2, .ref 1000)], [.ref 1000, .int ((nI e) - (nI s))], [(20, rO t e pl fd lt ct), (21, .inr (.inl (1, ty)))])) (ob := []) rfl (ob_n) ?_
    refine J.callVS F hJ lk_X4_117 im_J0_length_8abf5 se_J0_length_8abf5 (by decide +kernel) (c_slen 0 (by decide)) (by decide) rfl (by decide) [.int ((nI e) - (nI s))] rfl rfl rfl (fun r ws' hp => ?_)
    obtain ⟨rfl, -⟩ := hp
    rw [sln_0]
    show J x 4 (ad, 0, 0) (24, [(0, .ref 20), (1, .int (nI s)), (2, .ref 1000)], [.int 6, .int ((nI e) - (nI s))], [(20, rO t e pl fd lt ct), (21, .inr (.inl (1, ty)))])
    refine J.run (sn_X4_isWord F) 5 [1] (S' := (33, [(0, .ref 20), (1, .int (nI s)), (2, .ref 1000), (3, .int 0)], [.ref 1000, .int 0], [(20, rO t e pl fd lt ct), (21, .inr (.inl (1, ty)))])) (ob := [((nI e) - (nI s)) = 6]) rfl (ob_c (by rw [nI_sub hse, hn]; rfl) ob_n) ?_
    refine J.callVS F hJ lk_X4_117 im_J0_length_8abf5 se_J0_length_8abf5 (by decide +kernel) (c_slen 0 (by decide)) (by decide) rfl (by decide) [.int 0] rfl rfl rfl (fun r ws' hp => ?_)
    obtain ⟨rfl, -⟩ := hp
    rw [sln_0]
    show J x 4 (ad, 0, 0) (36, [(0, .ref 20), (1, .int (nI s)), (2, .ref 1000), (3, .int 0)], [.int 6, .int 0], [(20, rO t e pl fd lt ct), (21, .inr (.inl (1, ty)))])
    refine J.run (sn_X4_isWord F) 9 [0, (s + 0)] (S' := (49, [(0, .ref 20), (1, .int (nI s)), (2, .ref 1000), (3, .int 0)], [.int 0, .ref 1000, .int (gi ty (s + 0))], [(20, rO t e pl fd lt ct), (21, .inr (.inl (1, ty)))])) (ob := [¬ 6 ≤ (0 : Int32), ix ((nI s) + 0) (s + 0) ty.length]) rfl (ob_c (by decide) (ob_c (ix_len hty (ix_eq (nI_k s 0) (ix_nI (by omega) (by decide)))) ob_n)) ?_
    refine J.callVS F hJ lk_X4_121 im_J0_charAt_5068e se_J0_charAt_5068e (by decide +kernel) (c_chAt 0 (by decide) 0 (by decide) (by decide) chn_0_0) (by decide) rfl (by decide) [.int (gi ty (s + 0))] rfl rfl rfl (fun r ws' hp => ?_)
    obtain ⟨rfl, -⟩ := hp
    rw [chV_0_0]
    show J x 4 (ad, 0, 0) (52, [(0, .ref 20), (1, .int (nI s)), (2, .ref 1000), (3, .int 0)], [.int 109, .int (gi ty (s + 0))], [(20, rO t e pl fd lt ct), (21, .inr (.inl (1, ty)))])
    by_cases h1 : (gi ty (s + 0)) = 109
    · skip
      refine J.run (sn_X4_isWord F) 5 [1] (S' := (33, [(0, .ref 20), (1, .int (nI s)), (2, .ref 1000), (3, .int 1)], [.ref 1000, .int 1], [(20, rO t e pl fd lt ct), (21, .inr (.inl (1, ty)))])) (ob := [(gi ty (s + 0)) = 109]) rfl (ob_c h1 ob_n) ?_
      refine J.callVS F hJ lk_X4_117 im_J0_length_8abf5 se_J0_length_8abf5 (by decide +kernel) (c_slen 0 (by decide)) (by decide) rfl (by decide) [.int 1] rfl rfl rfl (fun r ws' hp => ?_)
      obtain ⟨rfl, -⟩ := hp
      rw [sln_0]
      show J x 4 (ad, 0, 0) (36, [(0, .ref 20), (1, .int (nI s)), (2, .ref 1000), (3, .int 1)], [.int 6, .int 1], [(20, rO t e pl fd lt ct), (21, .inr (.inl (1, ty)))])
      refine J.run (sn_X4_isWord F) 9 [0, (s + 1)] (S' := (49, [(0, .ref 20), (1, .int (nI s)), (2, .ref 1000), (3, .int 1)], [.int 1, .ref 1000, .int (gi ty (s + 1))], [(20, rO t e pl fd lt ct), (21, .inr (.inl (1, ty)))])) (ob := [¬ 6 ≤ (1 : Int32), ix ((nI s) + 1) (s + 1) ty.length]) rfl (ob_c (by decide) (ob_c (ix_len hty (ix_eq (nI_k s 1) (ix_nI (by omega) (by decide)))) ob_n)) ?_
      refine J.callVS F hJ lk_X4_121 im_J0_charAt_5068e se_J0_charAt_5068e (by decide +kernel) (c_chAt 0 (by decide) 1 (by decide) (by decide) chn_0_1) (by decide) rfl (by decide) [.int (gi ty (s + 1))] rfl rfl rfl (fun r ws' hp => ?_)
      obtain ⟨rfl, -⟩ := hp
      rw [chV_0_1]
      show J x 4 (ad, 0, 0) (52, [(0, .ref 20), (1, .int (nI s)), (2, .ref 1000), (3, .int 1)], [.int 101, .int (gi ty (s + 1))], [(20, rO t e pl fd lt ct), (21, .inr (.inl (1, ty)))])
      by_cases h2 : (gi ty (s + 1)) = 101
      · skip
        refine J.run (sn_X4_isWord F) 5 [1] (S' := (33, [(0, .ref 20), (1, .int (nI s)), (2, .ref 1000), (3, .int 2)], [.ref 1000, .int 2], [(20, rO t e pl fd lt ct), (21, .inr (.inl (1, ty)))])) (ob := [(gi ty (s + 1)) = 101]) rfl (ob_c h2 ob_n) ?_
        refine J.callVS F hJ lk_X4_117 im_J0_length_8abf5 se_J0_length_8abf5 (by decide +kernel) (c_slen 0 (by decide)) (by decide) rfl (by decide) [.int 2] rfl rfl rfl (fun r ws' hp => ?_)
        obtain ⟨rfl, -⟩ := hp
        rw [sln_0]
        show J x 4 (ad, 0, 0) (36, [(0, .ref 20), (1, .int (nI s)), (2, .ref 1000), (3, .int 2)], [.int 6, .int 2], [(20, rO t e pl fd lt ct), (21, .inr (.inl (1, ty)))])
        refine J.run (sn_X4_isWord F) 9 [0, (s + 2)] (S' := (49, [(0, .ref 20), (1, .int (nI s)), (2, .ref 1000), (3, .int 2)], [.int 2, .ref 1000, .int (gi ty (s + 2))], [(20, rO t e pl fd lt ct), (21, .inr (.inl (1, ty)))])) (ob := [¬ 6 ≤ (2 : Int32), ix ((nI s) + 2) (s + 2) ty.length]) rfl (ob_c (by decide) (ob_c (ix_len hty (ix_eq (nI_k s 2) (ix_nI (by omega) (by decide)))) ob_n)) ?_
        refine J.callVS F hJ lk_X4_121 im_J0_charAt_5068e se_J0_charAt_5068e (by decide +kernel) (c_chAt 0 (by decide) 2 (by decide) (by decide) chn_0_2) (by decide) rfl (by decide) [.int (gi ty (s + 2))] rfl rfl rfl (fun r ws' hp => ?_)
        obtain ⟨rfl, -⟩ := hp
        rw [chV_0_2]
        show J x 4 (ad, 0, 0) (52, [(0, .ref 20), (1, .int (nI s)), (2, .ref 1000), (3, .int 2)], [.int 109, .int (gi ty (s + 2))], [(20, rO t e pl fd lt ct), (21, .inr (.inl (1, ty)))])
        by_cases h3 : (gi ty (s + 2)) = 109
        · skip
          refine J.run (sn_X4_isWord F) 5 [1] (S' := (33, [(0, .ref 20), (1, .int (nI s)), (2, .ref 1000), (3, .int 3)], [.ref 1000, .int 3], [(20, rO t e pl fd lt ct), (21, .inr (.inl (1, ty)))])) (ob := [(gi ty (s + 2)) = 109]) rfl (ob_c h3 ob_n) ?_
          refine J.callVS F hJ lk_X4_117 im_J0_length_8abf5 se_J0_length_8abf5 (by decide +kernel) (c_slen 0 (by decide)) (by decide) rfl (by decide) [.int 3] rfl rfl rfl (fun r ws' hp => ?_)
          obtain ⟨rfl, -⟩ := hp
          rw [sln_0]
          show J x 4 (ad, 0, 0) (36, [(0, .ref 20), (1, .int (nI s)), (2, .ref 1000), (3, .int 3)], [.int 6, .int 3], [(20, rO t e pl fd lt ct), (21, .inr (.inl (1, ty)))])
          refine J.run (sn_X4_isWord F) 9 [0, (s + 3)] (S' := (49, [(0, .ref 20), (1, .int (nI s)), (2, .ref 1000), (3, .int 3)], [.int 3, .ref 1000, .int (gi ty (s + 3))], [(20, rO t e pl fd lt ct), (21, .inr (.inl (1, ty)))])) (ob := [¬ 6 ≤ (3 : Int32), ix ((nI s) + 3) (s + 3) ty.length]) rfl (ob_c (by decide) (ob_c (ix_len hty (ix_eq (nI_k s 3) (ix_nI (by omega) (by decide)))) ob_n)) ?_
          refine J.callVS F hJ lk_X4_121 im_J0_charAt_5068e se_J0_charAt_5068e (by decide +kernel) (c_chAt 0 (by decide) 3 (by decide) (by decide) chn_0_3) (by decide) rfl (by decide) [.int (gi ty (s + 3))] rfl rfl rfl (fun r ws' hp => ?_)
          obtain ⟨rfl, -⟩ := hp
          rw [chV_0_3]
          show J x 4 (ad, 0, 0) (52, [(0, .ref 20), (1, .int (nI s)), (2, .ref 1000), (3, .int 3)], [.int 98, .int (gi ty (s + 3))], [(20, rO t e pl fd lt ct), (21, .inr (.inl (1, ty)))])
          by_cases h4 : (gi ty (s + 3)) = 98
          · skip
            refine J.run (sn_X4_isWord F) 5 [1] (S' := (33, [(0, .ref 20), (1, .int (nI s)), (2, .ref 1000), (3, .int 4)], [.ref 1000, .int 4], [(20, rO t e pl fd lt ct), (21, .inr (.inl (1, ty)))])) (ob := [(gi ty (s + 3)) = 98]) rfl (ob_c h4 ob_n) ?_
            refine J.callVS F hJ lk_X4_117 im_J0_length_8abf5 se_J0_length_8abf5 (by decide +kernel) (c_slen 0 (by decide)) (by decide) rfl (by decide) [.int 4] rfl rfl rfl (fun r ws' hp => ?_)
            obtain ⟨rfl, -⟩ := hp
            rw [sln_0]
            show J x 4 (ad, 0, 0) (36, [(0, .ref 20), (1, .int (nI s)), (2, .ref 1000), (3, .int 4)], [.int 6, .int 4], [(20, rO t e pl fd lt ct), (21, .inr (.inl (1, ty)))])
            refine J.run (sn_X4_isWord F) 9 [0, (s + 4)] (S' := (49, [(0, .ref 20), (1, .int (nI s)), (2, .ref 1000), (3, .int 4)], [.int 4, .ref 1000, .int (gi ty (s + 4))], [(20, rO t e pl fd lt ct), (21, .inr (.inl (1, ty)))])) (ob := [¬ 6 ≤ (4 : Int32), ix ((nI s) + 4) (s + 4) ty.length]) rfl (ob_c (by decide) (ob_c (ix_len hty (ix_eq (nI_k s 4) (ix_nI (by omega) (by decide)))) ob_n)) ?_
            refine J.callVS F hJ lk_X4_121 im_J0_charAt_5068e se_J0_charAt_5068e (by decide +kernel) (c_chAt 0 (by decide) 4 (by decide) (by decide) chn_0_4) (by decide) rfl (by decide) [.int (gi ty (s + 4))] rfl rfl rfl (fun r ws' hp => ?_)
            obtain ⟨rfl, -⟩ := hp
            rw [chV_0_4]
            show J x 4 (ad, 0, 0) (52, [(0, .ref 20), (1, .int (nI s)), (2, .ref 1000), (3, .int 4)], [.int 101, .int (gi ty (s + 4))], [(20, rO t e pl fd lt ct), (21, .inr (.inl (1, ty)))])
            by_cases h5 : (gi ty (s + 4)) = 101
            · skip
              refine J.run (sn_X4_isWord F) 5 [1] (S' := (33, [(0, .ref 20), (1, .int (nI s)), (2, .ref 1000), (3, .int 5)], [.ref 1000, .int 5], [(20, rO t e pl fd lt ct), (21, .inr (.inl (1, ty)))])) (ob := [(gi ty (s + 4)) = 101]) rfl (ob_c h5 ob_n) ?_
              refine J.callVS F hJ lk_X4_117 im_J0_length_8abf5 se_J0_length_8abf5 (by decide +kernel) (c_slen 0 (by decide)) (by decide) rfl (by decide) [.int 5] rfl rfl rfl (fun r ws' hp => ?_)
              obtain ⟨rfl, -⟩ := hp
              rw [sln_0]
              show J x 4 (ad, 0, 0) (36, [(0, .ref 20), (1, .int (nI s)), (2, .ref 1000), (3, .int 5)], [.int 6, .int 5], [(20, rO t e pl fd lt ct), (21, .inr (.inl (1, ty)))])
              refine J.run (sn_X4_isWord F) 9 [0, (s + 5)] (S' := (49, [(0, .ref 20), (1, .int (nI s)), (2, .ref 1000), (3, .int 5)], [.int 5, .ref 1000, .int (gi ty (s + 5))], [(20, rO t e pl fd lt ct), (21, .inr (.inl (1, ty)))])) (ob := [¬ 6 ≤ (5 : Int32), ix ((nI s) + 5) (s + 5) ty.length]) rfl (ob_c (by decide) (ob_c (ix_len hty (ix_eq (nI_k s 5) (ix_nI (by omega) (by decide)))) ob_n)) ?_
              refine J.callVS F hJ lk_X4_121 im_J0_charAt_5068e se_J0_charAt_5068e (by decide +kernel) (c_chAt 0 (by decide) 5 (by decide) (by decide) chn_0_5) (by decide) rfl (by decide) [.int (gi ty (s + 5))] rfl rfl rfl (fun r ws' hp => ?_)
              obtain ⟨rfl, -⟩ := hp
              rw [chV_0_5]
              show J x 4 (ad, 0, 0) (52, [(0, .ref 20), (1, .int (nI s)), (2, .ref 1000), (3, .int 5)], [.int 114, .int (gi ty (s + 5))], [(20, rO t e pl fd lt ct), (21, .inr (.inl (1, ty)))])
              by_cases h6 : (gi ty (s + 5)) = 114
              · skip
                refine J.run (sn_X4_isWord F) 5 [1] (S' := (33, [(0, .ref 20), (1, .int (nI s)), (2, .ref 1000), (3, .int 6)], [.ref 1000, .int 6], [(20, rO t e pl fd lt ct), (21, .inr (.inl (1, ty)))])) (ob := [(gi ty (s + 5)) = 114]) rfl (ob_c h6 ob_n) ?_
                refine J.callVS F hJ lk_X4_117 im_J0_length_8abf5 se_J0_length_8abf5 (by decide +kernel) (c_slen 0 (by decide)) (by decide) rfl (by decide) [.int 6] rfl rfl rfl (fun r ws' hp => ?_)
                obtain ⟨rfl, -⟩ := hp
                rw [sln_0]
                show J x 4 (ad, 0, 0) (36, [(0, .ref 20), (1, .int (nI s)), (2, .ref 1000), (3, .int 6)], [.int 6, .int 6], [(20, rO t e pl fd lt ct), (21, .inr (.inl (1, ty)))])
                refine J.run (sn_X4_isWord F) 2 [1] (S' := (64, [(0, .ref 20), (1, .int (nI s)), (2, .ref 1000), (3, .int 6)], [.int 1], [(20, rO t e pl fd lt ct), (21, .inr (.inl (1, ty)))])) (ob := [6 ≤ (6 : Int32)]) rfl (ob_c (by decide) ob_n) ?_
                exact J.iret F hR (Nat.le_refl _) (Nat.le_refl _) rfl rfl (by decide +kernel) ⟨rfl, keq [20, 21] rfl rfl, by rw [wd_0]; simp only [hn, eq_true h1, eq_true h2, eq_true h3, eq_true h4, eq_true h5, eq_true h6, ↓reduceIte, ite_self, Bool.false_eq_true, cond_true, cond_false, Bool.true_and, Bool.false_and, Bool.and_true, Bool.and_false, Bool.true_or, Bool.false_or, Bool.or_true, Bool.or_false, Bool.not_true, Bool.not_false, decide_true, decide_false, b2i_t, b2i_f], rfl⟩
              · skip
                refine J.run (sn_X4_isWord F) 2 [0] (S' := (56, [(0, .ref 20), (1, .int (nI s)), (2, .ref 1000), (3, .int 5)], [.int 0], [(20, rO t e pl fd lt ct), (21, .inr (.inl (1, ty)))])) (ob := [¬ (gi ty (s + 5)) = 114]) rfl (ob_c h6 ob_n) ?_
                exact J.iret F hR (Nat.le_refl _) (Nat.le_refl _) rfl rfl (by decide +kernel) ⟨rfl, keq [20, 21] rfl rfl, by rw [wd_0]; simp only [hn, eq_true h1, eq_true h2, eq_true h3, eq_true h4, eq_true h5, h6, ↓reduceIte, ite_self, Bool.false_eq_true, cond_true, cond_false, Bool.true_and, Bool.false_and, Bool.and_true, Bool.and_false, Bool.true_or, Bool.false_or, Bool.or_true, Bool.or_false, Bool.not_true, Bool.not_false, decide_true, decide_false, b2i_t, b2i_f], rfl⟩
            · skip
              refine J.run (sn_X4_isWord F) 2 [0] (S' := (56, [(0, .ref 20), (1, .int (nI s)), (2, .ref 1000), (3, .int 4)], [.int 0], [(20, rO t e pl fd lt ct), (21, .inr (.inl (1, ty)))])) (ob := [¬ (gi ty (s + 4)) = 101]) rfl (ob_c h5 ob_n) ?_
              exact J.iret F hR (Nat.le_refl _) (Nat.le_refl _) rfl rfl (by decide +kernel) ⟨rfl, keq [20, 21] rfl rfl, by rw [wd_0]; simp only [hn, eq_true h1, eq_true h2, eq_true h3, eq_true h4, h5, ↓reduceIte, ite_self, Bool.false_eq_true, cond_true, cond_false, Bool.true_and, Bool.false_and, Bool.and_true, Bool.and_false, Bool.true_or, Bool.false_or, Bool.or_true, Bool.or_false, Bool.not_true, Bool.not_false, decide_true, decide_false, b2i_t, b2i_f], rfl⟩
          · skip
            refine J.run (sn_X4_isWord F) 2 [0] (S' := (56, [(0, .ref 20), (1, .int (nI s)), (2, .ref 1000), (3, .int 3)], [.int 0], [(20, rO t e pl fd lt ct), (21, .inr (.inl (1, ty)))])) (ob := [¬ (gi ty (s + 3)) = 98]) rfl (ob_c h4 ob_n) ?_
            exact J.iret F hR (Nat.le_refl _) (Nat.le_refl _) rfl rfl (by decide +kernel) ⟨rfl, keq [20, 21] rfl rfl, by rw [wd_0]; simp only [hn, eq_true h1, eq_true h2, eq_true h3, h4, ↓reduceIte, ite_self, Bool.false_eq_true, cond_true, cond_false, Bool.true_and, Bool.false_and, Bool.and_true, Bool.and_false, Bool.true_or, Bool.false_or, Bool.or_true, Bool.or_false, Bool.not_true, Bool.not_false, decide_true, decide_false, b2i_t, b2i_f], rfl⟩
        · skip
          refine J.run (sn_X4_isWord F) 2 [0] (S' := (56, [(0, .ref 20), (1, .int (nI s)), (2, .ref 1000), (3, .int 2)], [.int 0], [(20, rO t e pl fd lt ct), (21, .inr (.inl (1, ty)))])) (ob := [¬ (gi ty (s + 2)) = 109]) rfl (ob_c h3 ob_n) ?_
          exact J.iret F hR (Nat.le_refl _) (Nat.le_refl _) rfl rfl (by decide +kernel) ⟨rfl, keq [20, 21] rfl rfl, by rw [wd_0]; simp only [hn, eq_true h1, eq_true h2, h3, ↓reduceIte, ite_self, Bool.false_eq_true, cond_true, cond_false, Bool.true_and, Bool.false_and, Bool.and_true, Bool.and_false, Bool.true_or, Bool.false_or, Bool.or_true, Bool.or_false, Bool.not_true, Bool.not_false, decide_true, decide_false, b2i_t, b2i_f], rfl⟩
      · skip
        refine J.run (sn_X4_isWord F) 2 [0] (S' := (56, [(0, .ref 20), (1, .int (nI s)), (2, .ref 1000), (3, .int 1)], [.int 0], [(20, rO t e pl fd lt ct), (21, .inr (.inl (1, ty)))])) (ob := [¬ (gi ty (s + 1)) = 101]) rfl (ob_c h2 ob_n) ?_
        exact J.iret F hR (Nat.le_refl _) (Nat.le_refl _) rfl rfl (by decide +kernel) ⟨rfl, keq [20, 21] rfl rfl, by rw [wd_0]; simp only [hn, eq_true h1, h2, ↓reduceIte, ite_self, Bool.false_eq_true, cond_true, cond_false, Bool.true_and, Bool.false_and, Bool.and_true, Bool.and_false, Bool.true_or, Bool.false_or, Bool.or_true, Bool.or_false, Bool.not_true, Bool.not_false, decide_true, decide_false, b2i_t, b2i_f], rfl⟩
    · skip
      refine J.run (sn_X4_isWord F) 2 [0] (S' := (56, [(0, .ref 20), (1, .int (nI s)), (2, .ref 1000), (3, .int 0)], [.int 0], [(20, rO t e pl fd lt ct), (21, .inr (.inl (1, ty)))])) (ob := [¬ (gi ty (s + 0)) = 109]) rfl (ob_c h1 ob_n) ?_
      exact J.iret F hR (Nat.le_refl _) (Nat.le_refl _) rfl rfl (by decide +kernel) ⟨rfl, keq [20, 21] rfl rfl, by rw [wd_0]; simp only [hn, h1, ↓reduceIte, ite_self, Bool.false_eq_true, cond_true, cond_false, Bool.true_and, Bool.false_and, Bool.and_true, Bool.and_false, Bool.true_or, Bool.false_or, Bool.or_true, Bool.or_false, Bool.not_true, Bool.not_false, decide_true, decide_false, b2i_t, b2i_f], rfl⟩
  · skip
    refine J.run (sn_X4_isWord F) 10 [0, 0] (S' := (20, [(0, .ref 20), (1, .int (nI s)), (2, .ref 1000)], [.int ((nI e) - (nI s))], [(20, rO t e pl fd lt ct), (21, .inr (.inl (1, ty)))])) (ob := [¬ (nI s) < 0, ¬ 400 < (nI e)]) rfl (ob_c (n_nlt0 (by omega)) (ob_c (n_nlt (a := 400) (by omega) (by omega) he) ob_n)) ?_
    refine J.run (sn_X4_isWord F) 1 [] (S' := (21, [(0, .ref 20), (1, .int (nI s)), (2, .ref 1000)], [.ref 1000, .int ((nI e) - (nI s))], [(20, rO t e pl fd lt ct), (21, .inr (.inl (1, ty)))])) (ob := []) rfl (ob_n) ?_
    refine J.callVS F hJ lk_X4_117 im_J0_length_8abf5 se_J0_length_8abf5 (by decide +kernel) (c_slen 0 (by decide)) (by decide) rfl (by decide) [.int ((nI e) - (nI s))] rfl rfl rfl (fun r ws' hp => ?_)
    obtain ⟨rfl, -⟩ := hp
    rw [sln_0]
    show J x 4 (ad, 0, 0) (24, [(0, .ref 20), (1, .int (nI s)), (2, .ref 1000)], [.int 6, .int ((nI e) - (nI s))], [(20, rO t e pl fd lt ct), (21, .inr (.inl (1, ty)))])
    refine J.run (sn_X4_isWord F) 2 [0] (S' := (28, [(0, .ref 20), (1, .int (nI s)), (2, .ref 1000)], [.int 0], [(20, rO t e pl fd lt ct), (21, .inr (.inl (1, ty)))])) (ob := [¬ ((nI e) - (nI s)) = 6]) rfl (ob_c (by rw [nI_sub hse]; exact n_ne (b := 6) (by omega) (by omega) hn) ob_n) ?_
    exact J.iret F hR (Nat.le_refl _) (Nat.le_refl _) rfl rfl (by decide +kernel) ⟨rfl, keq [20, 21] rfl rfl, by rw [wd_0]; simp only [hn, ↓reduceIte, ite_self, Bool.false_eq_true, cond_true, cond_false, Bool.true_and, Bool.false_and, Bool.and_true, Bool.and_false, Bool.true_or, Bool.false_or, Bool.or_true, Bool.or_false, Bool.not_true, Bool.not_false, decide_true, decide_false, b2i_t, b2i_f], rfl⟩
set_option maxHeartbeats 4000000 in
set_option maxRecDepth 100000 in
theorem c_isW1 (ty : List Int32) (hty : ty.length = 400) (t : Nat) (s e : Nat) (hse : s ≤ e) (he : e ≤ 400) (pl fd lt ct : Int32) : Ctr mk_X4_isWord 5 [.ref 20, .int (nI s), .ref 1001] [(20, rO t e pl fd lt ct), (21, .inr (.inl (1, ty)))] (fun r u => r = some (.int (b2i (wdB ty s e 1))) ∧ u = [(20, rO t e pl fd lt ct), (21, .inr (.inl (1, ty)))]) := by
  refine Ctr.of rfl (Nat.le_of_ble_eq_true rfl) ?_
  intro x ad F hJ hR
  by_cases hn : e - s = 3
  · skip
    refine J.run (sn_X4_isWord F) 10 [0, 0] (S' := (20, [(0, .ref 20), (1, .int (nI s)), (2, .ref 1001)], [.int ((nI e) - (nI s))], [(20, rO t e pl fd lt ct), (21, .inr (.inl (1, ty)))])) (ob := [¬ (nI s) < 0, ¬ 400 < (nI e)]) rfl (ob_c (n_nlt0 (by omega)) (ob_c (n_nlt (a := 400) (by omega) (by omega) he) ob_n)) ?_
    refine J.run (sn_X4_isWord F) 1 [] (S' := (21, [(0, .ref 20), (1, .int (nI s)), (2, .ref 1001)], [.ref 1001, .int ((nI e) - (nI s))], [(20, rO t e pl fd lt ct), (21, .inr (.inl (1, ty)))])) (ob := []) rfl (ob_n) ?_
    refine J.callVS F hJ lk_X4_117 im_J0_length_8abf5 se_J0_length_8abf5 (by decide +kernel) (c_slen 1 (by decide)) (by decide) rfl (by decide) [.int ((nI e) - (nI s))] rfl rfl rfl (fun r ws' hp => ?_)
    obtain ⟨rfl, -⟩ := hp
    rw [sln_1]
    show J x 4 (ad, 0, 0) (24, [(0, .ref 20), (1, .int (nI s)), (2, .ref 1001)], [.int 3, .int ((nI e) - (nI s))], [(20, rO t e pl fd lt ct), (21, .inr (.inl (1, ty)))])
    refine J.run (sn_X4_isWord F) 5 [1] (S' := (33, [(0, .ref 20), (1, .int (nI s)), (2, .ref 1001), (3, .int 0)], [.ref 1001, .int 0], [(20, rO t e pl fd lt ct), (21, .inr (.inl (1, ty)))])) (ob := [((nI e) - (nI s)) = 3]) rfl (ob_c (by rw [nI_sub hse, hn]; rfl) ob_n) ?_
    refine J.callVS F hJ lk_X4_117 im_J0_length_8abf5 se_J0_length_8abf5 (by decide +kernel) (c_slen 1 (by decide)) (by decide) rfl (by decide) [.int 0] rfl rfl rfl (fun r ws' hp => ?_)
    obtain ⟨rfl, -⟩ := hp
    rw [sln_1]
    show J x 4 (ad, 0, 0) (36, [(0, .ref 20), (1, .int (nI s)), (2, .ref 1001), (3, .int 0)], [.int 3, .int 0], [(20, rO t e pl fd lt ct), (21, .inr (.inl (1, ty)))])
    refine J.run (sn_X4_isWord F) 9 [0, (s + 0)] (S' := (49, [(0, .ref 20), (1, .int (nI s)), (2, .ref 1001), (3, .int 0)], [.int 0, .ref 1001, .int (gi ty (s + 0))], [(20, rO t e pl fd lt ct), (21, .inr (.inl (1, ty)))])) (ob := [¬ 3 ≤ (0 : Int32), ix ((nI s) + 0) (s + 0) ty.length]) rfl (ob_c (by decide) (ob_c (ix_len hty (ix_eq (nI_k s 0) (ix_nI (by omega) (by decide)))) ob_n)) ?_
    refine J.callVS F hJ lk_X4_121 im_J0_charAt_5068e se_J0_charAt_5068e (by decide +kernel) (c_chAt 1 (by decide) 0 (by decide) (by decide) chn_1_0) (by decide) rfl (by decide) [.int (gi ty (s + 0))] rfl rfl rfl (fun r ws' hp => ?_)
    obtain ⟨rfl, -⟩ := hp
    rw [chV_1_0]
    show J x 4 (ad, 0, 0) (52, [(0, .ref 20), (1, .int (nI s)), (2, .ref 1001), (3, .int 0)], [.int 108, .int (gi ty (s + 0))], [(20, rO t e pl fd lt ct), (21, .inr (.inl (1, ty)))])
    by_cases h1 : (gi ty (s + 0)) = 108
    · skip
      refine J.run (sn_X4_isWord F) 5 [1] (S' := (33, [(0, .ref 20), (1, .int (nI s)), (2, .ref 1001), (3, .int 1)], [.ref 1001, .int 1], [(20, rO t e pl fd lt ct), (21, .inr (.inl (1, ty)))])) (ob := [(gi ty (s + 0)) = 108]) rfl (ob_c h1 ob_n) ?_
      refine J.callVS F hJ lk_X4_117 im_J0_length_8abf5 se_J0_length_8abf5 (by decide +kernel) (c_slen 1 (by decide)) (by decide) rfl (by decide) [.int 1] rfl rfl rfl (fun r ws' hp => ?_)
      obtain ⟨rfl, -⟩ := hp
      rw [sln_1]
      show J x 4 (ad, 0, 0) (36, [(0, .ref 20), (1, .int (nI s)), (2, .ref 1001), (3, .int 1)], [.int 3, .int 1], [(20, rO t e pl fd lt ct), (21, .inr (.inl (1, ty)))])
      refine J.run (sn_X4_isWord F) 9 [0, (s + 1)] (S' := (49, [(0, .ref 20), (1, .int (nI s)), (2, .ref 1001), (3, .int 1)], [.int 1, .ref 1001, .int (gi ty (s + 1))], [(20, rO t e pl fd lt ct), (21, .inr (.inl (1, ty)))])) (ob := [¬ 3 ≤ (1 : Int32), ix ((nI s) + 1) (s + 1) ty.length]) rfl (ob_c (by decide) (ob_c (ix_len hty (ix_eq (nI_k s 1) (ix_nI (by omega) (by decide)))) ob_n)) ?_
      refine J.callVS F hJ lk_X4_121 im_J0_charAt_5068e se_J0_charAt_5068e (by decide +kernel) (c_chAt 1 (by decide) 1 (by decide) (by decide) chn_1_1) (by decide) rfl (by decide) [.int (gi ty (s + 1))] rfl rfl rfl (fun r ws' hp => ?_)
      obtain ⟨rfl, -⟩ := hp
      rw [chV_1_1]
      show J x 4 (ad, 0, 0) (52, [(0, .ref 20), (1, .int (nI s)), (2, .ref 1001), (3, .int 1)], [.int 97, .int (gi ty (s + 1))], [(20, rO t e pl fd lt ct), (21, .inr (.inl (1, ty)))])
      by_cases h2 : (gi ty (s + 1)) = 97
      · skip
        refine J.run (sn_X4_isWord F) 5 [1] (S' := (33, [(0, .ref 20), (1, .int (nI s)), (2, .ref 1001), (3, .int 2)], [.ref 1001, .int 2], [(20, rO t e pl fd lt ct), (21, .inr (.inl (1, ty)))])) (ob := [(gi ty (s + 1)) = 97]) rfl (ob_c h2 ob_n) ?_
        refine J.callVS F hJ lk_X4_117 im_J0_length_8abf5 se_J0_length_8abf5 (by decide +kernel) (c_slen 1 (by decide)) (by decide) rfl (by decide) [.int 2] rfl rfl rfl (fun r ws' hp => ?_)
        obtain ⟨rfl, -⟩ := hp
        rw [sln_1]
        show J x 4 (ad, 0, 0) (36, [(0, .ref 20), (1, .int (nI s)), (2, .ref 1001), (3, .int 2)], [.int 3, .int 2], [(20, rO t e pl fd lt ct), (21, .inr (.inl (1, ty)))])
        refine J.run (sn_X4_isWord F) 9 [0, (s + 2)] (S' := (49, [(0, .ref 20), (1, .int (nI s)), (2, .ref 1001), (3, .int 2)], [.int 2, .ref 1001, .int (gi ty (s + 2))], [(20, rO t e pl fd lt ct), (21, .inr (.inl (1, ty)))])) (ob := [¬ 3 ≤ (2 : Int32), ix ((nI s) + 2) (s + 2) ty.length]) rfl (ob_c (by decide) (ob_c (ix_len hty (ix_eq (nI_k s 2) (ix_nI (by omega) (by decide)))) ob_n)) ?_
        refine J.callVS F hJ lk_X4_121 im_J0_charAt_5068e se_J0_charAt_5068e (by decide +kernel) (c_chAt 1 (by decide) 2 (by decide) (by decide) chn_1_2) (by decide) rfl (by decide) [.int (gi ty (s + 2))] rfl rfl rfl (fun r ws' hp => ?_)
        obtain ⟨rfl, -⟩ := hp
        rw [chV_1_2]
        show J x 4 (ad, 0, 0) (52, [(0, .ref 20), (1, .int (nI s)), (2, .ref 1001), (3, .int 2)], [.int 119, .int (gi ty (s + 2))], [(20, rO t e pl fd lt ct), (21, .inr (.inl (1, ty)))])
        by_cases h3 : (gi ty (s + 2)) = 119
        · skip
          refine J.run (sn_X4_isWord F) 5 [1] (S' := (33, [(0, .ref 20), (1, .int (nI s)), (2, .ref 1001), (3, .int 3)], [.ref 1001, .int 3], [(20, rO t e pl fd lt ct), (21, .inr (.inl (1, ty)))])) (ob := [(gi ty (s + 2)) = 119]) rfl (ob_c h3 ob_n) ?_
          refine J.callVS F hJ lk_X4_117 im_J0_length_8abf5 se_J0_length_8abf5 (by decide +kernel) (c_slen 1 (by decide)) (by decide) rfl (by decide) [.int 3] rfl rfl rfl (fun r ws' hp => ?_)
          obtain ⟨rfl, -⟩ := hp
          rw [sln_1]
          show J x 4 (ad, 0, 0) (36, [(0, .ref 20), (1, .int (nI s)), (2, .ref 1001), (3, .int 3)], [.int 3, .int 3], [(20, rO t e pl fd lt ct), (21, .inr (.inl (1, ty)))])
          refine J.run (sn_X4_isWord F) 2 [1] (S' := (64, [(0, .ref 20), (1, .int (nI s)), (2, .ref 1001), (3, .int 3)], [.int 1], [(20, rO t e pl fd lt ct), (21, .inr (.inl (1, ty)))])) (ob := [3 ≤ (3 : Int32)]) rfl (ob_c (by decide) ob_n) ?_
          exact J.iret F hR (Nat.le_refl _) (Nat.le_refl _) rfl rfl (by decide +kernel) ⟨rfl, keq [20, 21] rfl rfl, by rw [wd_1]; simp only [hn, eq_true h1, eq_true h2, eq_true h3, ↓reduceIte, ite_self, Bool.false_eq_true, cond_true, cond_false, Bool.true_and, Bool.false_and, Bool.and_true, Bool.and_false, Bool.true_or, Bool.false_or, Bool.or_true, Bool.or_false, Bool.not_true, Bool.not_false, decide_true, decide_false, b2i_t, b2i_f], rfl⟩
        · skip
          refine J.run (sn_X4_isWord F) 2 [0] (S' := (56, [(0, .ref 20), (1, .int (nI s)), (2, .ref 1001), (3, .int 2)], [.int 0], [(20, rO t e pl fd lt ct), (21, .inr (.inl (1, ty)))])) (ob := [¬ (gi ty (s + 2)) = 119]) rfl (ob_c h3 ob_n) ?_
          exact J.iret F hR (Nat.le_refl _) (Nat.le_refl _) rfl rfl (by decide +kernel) ⟨rfl, keq [20, 21] rfl rfl, by rw [wd_1]; simp only [hn, eq_true h1, eq_true h2, h3, ↓reduceIte, ite_self, Bool.false_eq_true, cond_true, cond_false, Bool.true_and, Bool.false_and, Bool.and_true, Bool.and_false, Bool.true_or, Bool.false_or, Bool.or_true, Bool.or_false, Bool.not_true, Bool.not_false, decide_true, decide_false, b2i_t, b2i_f], rfl⟩
      · skip
        refine J.run (sn_X4_isWord F) 2 [0] (S' := (56, [(0, .ref 20), (1, .int (nI s)), (2, .ref 1001), (3, .int 1)], [.int 0], [(20, rO t e pl fd lt ct), (21, .inr (.inl (1, ty)))])) (ob := [¬ (gi ty (s + 1)) = 97]) rfl (ob_c h2 ob_n) ?_
        exact J.iret F hR (Nat.le_refl _) (Nat.le_refl _) rfl rfl (by decide +kernel) ⟨rfl, keq [20, 21] rfl rfl, by rw [wd_1]; simp only [hn, eq_true h1, h2, ↓reduceIte, ite_self, Bool.false_eq_true, cond_true, cond_false, Bool.true_and, Bool.false_and, Bool.and_true, Bool.and_false, Bool.true_or, Bool.false_or, Bool.or_true, Bool.or_false, Bool.not_true, Bool.not_false, decide_true, decide_false, b2i_t, b2i_f], rfl⟩
    · skip
      refine J.run (sn_X4_isWord F) 2 [0] (S' := (56, [(0, .ref 20), (1, .int (nI s)), (2, .ref 1001), (3, .int 0)], [.int 0], [(20, rO t e pl fd lt ct), (21, .inr (.inl (1, ty)))])) (ob := [¬ (gi ty (s + 0)) = 108]) rfl (ob_c h1 ob_n) ?_
      exact J.iret F hR (Nat.le_refl _) (Nat.le_refl _) rfl rfl (by decide +kernel) ⟨rfl, keq [20, 21] rfl rfl, by rw [wd_1]; simp only [hn, h1, ↓reduceIte, ite_self, Bool.false_eq_true, cond_true, cond_false, Bool.true_and, Bool.false_and, Bool.and_true, Bool.and_false, Bool.true_or, Bool.false_or, Bool.or_true, Bool.or_false, Bool.not_true, Bool.not_false, decide_true, decide_false, b2i_t, b2i_f], rfl⟩
  · skip
    refine J.run (sn_X4_isWord F) 10 [0, 0] (S' := (20, [(0, .ref 20), (1, .int (nI s)), (2, .ref 1001)], [.int ((nI e) - (nI s))], [(20, rO t e pl fd lt ct), (21, .inr (.inl (1, ty)))])) (ob := [¬ (nI s) < 0, ¬ 400 < (nI e)]) rfl (ob_c (n_nlt0 (by omega)) (ob_c (n_nlt (a := 400) (by omega) (by omega) he) ob_n)) ?_
    refine J.run (sn_X4_isWord F) 1 [] (S' := (21, [(0, .ref 20), (1, .int (nI s)), (2, .ref 1001)], [.ref 1001, .int ((nI e) - (nI s))], [(20, rO t e pl fd lt ct), (21, .inr (.inl (1, ty)))])) (ob := []) rfl (ob_n) ?_
    refine J.callVS F hJ lk_X4_117 im_J0_length_8abf5 se_J0_length_8abf5 (by decide +kernel) (c_slen 1 (by decide)) (by decide) rfl (by decide) [.int ((nI e) - (nI s))] rfl rfl rfl (fun r ws' hp => ?_)
    obtain ⟨rfl, -⟩ := hp
    rw [sln_1]
    show J x 4 (ad, 0, 0) (24, [(0, .ref 20), (1, .int (nI s)), (2, .ref 1001)], [.int 3, .int ((nI e) - (nI s))], [(20, rO t e pl fd lt ct), (21, .inr (.inl (1, ty)))])
    refine J.run (sn_X4_isWord F) 2 [0] (S' := (28, [(0, .ref 20), (1, .int (nI s)), (2, .ref 1001)], [.int 0], [(20, rO t e pl fd lt ct), (21, .inr (.inl (1, ty)))])) (ob := [¬ ((nI e) - (nI s)) = 3]) rfl (ob_c (by rw [nI_sub hse]; exact n_ne (b := 3) (by omega) (by omega) hn) ob_n) ?_
    exact J.iret F hR (Nat.le_refl _) (Nat.le_refl _) rfl rfl (by decide +kernel) ⟨rfl, keq [20, 21] rfl rfl, by rw [wd_1]; simp only [hn, ↓reduceIte, ite_self, Bool.false_eq_true, cond_true, cond_false, Bool.true_and, Bool.false_and, Bool.and_true, Bool.and_false, Bool.true_or, Bool.false_or, Bool.or_true, Bool.or_false, Bool.not_true, Bool.not_false, decide_true, decide_false, b2i_t, b2i_f], rfl⟩
set_option maxHeartbeats 4000000 in
set_option maxRecDepth 100000 in
theorem c_isW2 (ty : List Int32) (hty : ty.length = 400) (t : Nat) (s e : Nat) (hse : s ≤ e) (he : e ≤ 400) (pl fd lt ct : Int32) : Ctr mk_X4_isWord 5 [.ref 20, .int (nI s), .ref 1002] [(20, rO t e pl fd lt ct), (21, .inr (.inl (1, ty)))] (fun r u => r = some (.int (b2i (wdB ty s e 2))) ∧ u = [(20, rO t e pl fd lt ct), (21, .inr (.inl (1, ty)))]) := by
  refine Ctr.of rfl (Nat.le_of_ble_eq_true rfl) ?_
  intro x ad F hJ hR
  by_cases hn : e - s = 5
  · skip
    refine J.run (sn_X4_isWord F) 10 [0, 0] (S' := (20, [(0, .ref 20), (1, .int (nI s)), (2, .ref 1002)], [.int ((nI e) - (nI s))], [(20, rO t e pl fd lt ct), (21, .inr (.inl (1, ty)))])) (ob := [¬ (nI s) < 0, ¬ 400 < (nI e)]) rfl (ob_c (n_nlt0 (by omega)) (ob_c (n_nlt (a := 400) (by omega) (by omega) he) ob_n)) ?_
    refine J.run (sn_X4_isWord F) 1 [] (S' := (21, [(0, .ref 20), (1, .int (nI s)), (2, .ref 1002)], [.ref 1002, .int ((nI e) - (nI s))], [(20, rO t e pl fd lt ct), (21, .inr (.inl (1, ty)))])) (ob := []) rfl (ob_n) ?_
    refine J.callVS F hJ lk_X4_117 im_J0_length_8abf5 se_J0_length_8abf5 (by decide +kernel) (c_slen 2 (by decide)) (by decide) rfl (by decide) [.int ((nI e) - (nI s))] rfl rfl rfl (fun r ws' hp => ?_)
    obtain ⟨rfl, -⟩ := hp
    rw [sln_2]
    show J x 4 (ad, 0, 0) (24, [(0, .ref 20), (1, .int (nI s)), (2, .ref 1002)], [.int 5, .int ((nI e) - (nI s))], [(20, rO t e pl fd lt ct), (21, .inr (.inl (1, ty)))])
    refine J.run (sn_X4_isWord F) 5 [1] (S' := (33, [(0, .ref 20), (1, .int (nI s)), (2, .ref 1002), (3, .int 0)], [.ref 1002, .int 0], [(20, rO t e pl fd lt ct), (21, .inr (.inl (1, ty)))])) (ob := [((nI e) - (nI s)) = 5]) rfl (ob_c (by rw [nI_sub hse, hn]; rfl) ob_n) ?_
    refine J.callVS F hJ lk_X4_117 im_J0_length_8abf5 se_J0_length_8abf5 (by decide +kernel) (c_slen 2 (by decide)) (by decide) rfl (by decide) [.int 0] rfl rfl rfl (fun r ws' hp => ?_)
    obtain ⟨rfl, -⟩ := hp
    rw [sln_2]
    show J x 4 (ad, 0, 0) (36, [(0, .ref 20), (1, .int (nI s)), (2, .ref 1002), (3, .int 0)], [.int 5, .int 0], [(20, rO t e pl fd lt ct), (21, .inr (.inl (1, ty)))])
    refine J.run (sn_X4_isWord F) 9 [0, (s + 0)] (S' := (49, [(0, .ref 20), (1, .int (nI s)), (2, .ref 1002), (3, .int 0)], [.int 0, .ref 1002, .int (gi ty (s + 0))], [(20, rO t e pl fd lt ct), (21, .inr (.inl (1, ty)))])) (ob := [¬ 5 ≤ (0 : Int32), ix ((nI s) + 0) (s + 0) ty.length]) rfl (ob_c (by decide) (ob_c (ix_len hty (ix_eq (nI_k s 0) (ix_nI (by omega) (by decide)))) ob_n)) ?_
    refine J.callVS F hJ lk_X4_121 im_J0_charAt_5068e se_J0_charAt_5068e (by decide +kernel) (c_chAt 2 (by decide) 0 (by decide) (by decide) chn_2_0) (by decide) rfl (by decide) [.int (gi ty (s + 0))] rfl rfl rfl (fun r ws' hp => ?_)
    obtain ⟨rfl, -⟩ := hp
    rw [chV_2_0]
    show J x 4 (ad, 0, 0) (52, [(0, .ref 20), (1, .int (nI s)), (2, .ref 1002), (3, .int 0)], [.int 99, .int (gi ty (s + 0))], [(20, rO t e pl fd lt ct), (21, .inr (.inl (1, ty)))])
    by_cases h1 : (gi ty (s + 0)) = 99
    · skip
      refine J.run (sn_X4_isWord F) 5 [1] (S' := (33, [(0, .ref 20), (1, .int (nI s)), (2, .ref 1002), (3, .int 1)], [.ref 1002, .int 1], [(20, rO t e pl fd lt ct), (21, .inr (.inl (1, ty)))])) (ob := [(gi ty (s + 0)) = 99]) rfl (ob_c h1 ob_n) ?_
      refine J.callVS F hJ lk_X4_117 im_J0_length_8abf5 se_J0_length_8abf5 (by decide +kernel) (c_slen 2 (by decide)) (by decide) rfl (by decide) [.int 1] rfl rfl rfl (fun r ws' hp => ?_)
      obtain ⟨rfl, -⟩ := hp
      rw [sln_2]
      show J x 4 (ad, 0, 0) (36, [(0, .ref 20), (1, .int (nI s)), (2, .ref 1002), (3, .int 1)], [.int 5, .int 1], [(20, rO t e pl fd lt ct), (21, .inr (.inl (1, ty)))])
      refine J.run (sn_X4_isWord F) 9 [0, (s + 1)] (S' := (49, [(0, .ref 20), (1, .int (nI s)), (2, .ref 1002), (3, .int 1)], [.int 1, .ref 1002, .int (gi ty (s + 1))], [(20, rO t e pl fd lt ct), (21, .inr (.inl (1, ty)))])) (ob := [¬ 5 ≤ (1 : Int32), ix ((nI s) + 1) (s + 1) ty.length]) rfl (ob_c (by decide) (ob_c (ix_len hty (ix_eq (nI_k s 1) (ix_nI (by omega) (by decide)))) ob_n)) ?_
      refine J.callVS F hJ lk_X4_121 im_J0_charAt_5068e se_J0_charAt_5068e (by decide +kernel) (c_chAt 2 (by decide) 1 (by decide) (by decide) chn_2_1) (by decide) rfl (by decide) [.int (gi ty (s + 1))] rfl rfl rfl (fun r ws' hp => ?_)
      obtain ⟨rfl, -⟩ := hp
      rw [chV_2_1]
      show J x 4 (ad, 0, 0) (52, [(0, .ref 20), (1, .int (nI s)), (2, .ref 1002), (3, .int 1)], [.int 111, .int (gi ty (s + 1))], [(20, rO t e pl fd lt ct), (21, .inr (.inl (1, ty)))])
      by_cases h2 : (gi ty (s + 1)) = 111
      · skip
        refine J.run (sn_X4_isWord F) 5 [1] (S' := (33, [(0, .ref 20), (1, .int (nI s)), (2, .ref 1002), (3, .int 2)], [.ref 1002, .int 2], [(20, rO t e pl fd lt ct), (21, .inr (.inl (1, ty)))])) (ob := [(gi ty (s + 1)) = 111]) rfl (ob_c h2 ob_n) ?_
        refine J.callVS F hJ lk_X4_117 im_J0_length_8abf5 se_J0_length_8abf5 (by decide +kernel) (c_slen 2 (by decide)) (by decide) rfl (by decide) [.int 2] rfl rfl rfl (fun r ws' hp => ?_)
        obtain ⟨rfl, -⟩ := hp
        rw [sln_2]
        show J x 4 (ad, 0, 0) (36, [(0, .ref 20), (1, .int (nI s)), (2, .ref 1002), (3, .int 2)], [.int 5, .int 2], [(20, rO t e pl fd lt ct), (21, .inr (.inl (1, ty)))])
        refine J.run (sn_X4_isWord F) 9 [0, (s + 2)] (S' := (49, [(0, .ref 20), (1, .int (nI s)), (2, .ref 1002), (3, .int 2)], [.int 2, .ref 1002, .int (gi ty (s + 2))], [(20, rO t e pl fd lt ct), (21, .inr (.inl (1, ty)))])) (ob := [¬ 5 ≤ (2 : Int32), ix ((nI s) + 2) (s + 2) ty.length]) rfl (ob_c (by decide) (ob_c (ix_len hty (ix_eq (nI_k s 2) (ix_nI (by omega) (by decide)))) ob_n)) ?_
        refine J.callVS F hJ lk_X4_121 im_J0_charAt_5068e se_J0_charAt_5068e (by decide +kernel) (c_chAt 2 (by decide) 2 (by decide) (by decide) chn_2_2) (by decide) rfl (by decide) [.int (gi ty (s + 2))] rfl rfl rfl (fun r ws' hp => ?_)
        obtain ⟨rfl, -⟩ := hp
        rw [chV_2_2]
        show J x 4 (ad, 0, 0) (52, [(0, .ref 20), (1, .int (nI s)), (2, .ref 1002), (3, .int 2)], [.int 117, .int (gi ty (s + 2))], [(20, rO t e pl fd lt ct), (21, .inr (.inl (1, ty)))])
        by_cases h3 : (gi ty (s + 2)) = 117
        · skip
          refine J.run (sn_X4_isWord F) 5 [1] (S' := (33, [(0, .ref 20), (1, .int (nI s)), (2, .ref 1002), (3, .int 3)], [.ref 1002, .int 3], [(20, rO t e pl fd lt ct), (21, .inr (.inl (1, ty)))])) (ob := [(gi ty (s + 2)) = 117]) rfl (ob_c h3 ob_n) ?_
          refine J.callVS F hJ lk_X4_117 im_J0_length_8abf5 se_J0_length_8abf5 (by decide +kernel) (c_slen 2 (by decide)) (by decide) rfl (by decide) [.int 3] rfl rfl rfl (fun r ws' hp => ?_)
          obtain ⟨rfl, -⟩ := hp
          rw [sln_2]
          show J x 4 (ad, 0, 0) (36, [(0, .ref 20), (1, .int (nI s)), (2, .ref 1002), (3, .int 3)], [.int 5, .int 3], [(20, rO t e pl fd lt ct), (21, .inr (.inl (1, ty)))])
          refine J.run (sn_X4_isWord F) 9 [0, (s + 3)] (S' := (49, [(0, .ref 20), (1, .int (nI s)), (2, .ref 1002), (3, .int 3)], [.int 3, .ref 1002, .int (gi ty (s + 3))], [(20, rO t e pl fd lt ct), (21, .inr (.inl (1, ty)))])) (ob := [¬ 5 ≤ (3 : Int32), ix ((nI s) + 3) (s + 3) ty.length]) rfl (ob_c (by decide) (ob_c (ix_len hty (ix_eq (nI_k s 3) (ix_nI (by omega) (by decide)))) ob_n)) ?_
          refine J.callVS F hJ lk_X4_121 im_J0_charAt_5068e se_J0_charAt_5068e (by decide +kernel) (c_chAt 2 (by decide) 3 (by decide) (by decide) chn_2_3) (by decide) rfl (by decide) [.int (gi ty (s + 3))] rfl rfl rfl (fun r ws' hp => ?_)
          obtain ⟨rfl, -⟩ := hp
          rw [chV_2_3]
          show J x 4 (ad, 0, 0) (52, [(0, .ref 20), (1, .int (nI s)), (2, .ref 1002), (3, .int 3)], [.int 103, .int (gi ty (s + 3))], [(20, rO t e pl fd lt ct), (21, .inr (.inl (1, ty)))])
          by_cases h4 : (gi ty (s + 3)) = 103
          · skip
            refine J.run (sn_X4_isWord F) 5 [1] (S' := (33, [(0, .ref 20), (1, .int (nI s)), (2, .ref 1002), (3, .int 4)], [.ref 1002, .int 4], [(20, rO t e pl fd lt ct), (21, .inr (.inl (1, ty)))])) (ob := [(gi ty (s + 3)) = 103]) rfl (ob_c h4 ob_n) ?_
            refine J.callVS F hJ lk_X4_117 im_J0_length_8abf5 se_J0_length_8abf5 (by decide +kernel) (c_slen 2 (by decide)) (by decide) rfl (by decide) [.int 4] rfl rfl rfl (fun r ws' hp => ?_)
            obtain ⟨rfl, -⟩ := hp
            rw [sln_2]
            show J x 4 (ad, 0, 0) (36, [(0, .ref 20), (1, .int (nI s)), (2, .ref 1002), (3, .int 4)], [.int 5, .int 4], [(20, rO t e pl fd lt ct), (21, .inr (.inl (1, ty)))])
            refine J.run (sn_X4_isWord F) 9 [0, (s + 4)] (S' := (49, [(0, .ref 20), (1, .int (nI s)), (2, .ref 1002), (3, .int 4)], [.int 4, .ref 1002, .int (gi ty (s + 4))], [(20, rO t e pl fd lt ct), (21, .inr (.inl (1, ty)))])) (ob := [¬ 5 ≤ (4 : Int32), ix ((nI s) + 4) (s + 4) ty.length]) rfl (ob_c (by decide) (ob_c (ix_len hty (ix_eq (nI_k s 4) (ix_nI (by omega) (by decide)))) ob_n)) ?_
            refine J.callVS F hJ lk_X4_121 im_J0_charAt_5068e se_J0_charAt_5068e (by decide +kernel) (c_chAt 2 (by decide) 4 (by decide) (by decide) chn_2_4) (by decide) rfl (by decide) [.int (gi ty (s + 4))] rfl rfl rfl (fun r ws' hp => ?_)
            obtain ⟨rfl, -⟩ := hp
            rw [chV_2_4]
            show J x 4 (ad, 0, 0) (52, [(0, .ref 20), (1, .int (nI s)), (2, .ref 1002), (3, .int 4)], [.int 104, .int (gi ty (s + 4))], [(20, rO t e pl fd lt ct), (21, .inr (.inl (1, ty)))])
            by_cases h5 : (gi ty (s + 4)) = 104
            · skip
              refine J.run (sn_X4_isWord F) 5 [1] (S' := (33, [(0, .ref 20), (1, .int (nI s)), (2, .ref 1002), (3, .int 5)], [.ref 1002, .int 5], [(20, rO t e pl fd lt ct), (21, .inr (.inl (1, ty)))])) (ob := [(gi ty (s + 4)) = 104]) rfl (ob_c h5 ob_n) ?_
              refine J.callVS F hJ lk_X4_117 im_J0_length_8abf5 se_J0_length_8abf5 (by decide +kernel) (c_slen 2 (by decide)) (by decide) rfl (by decide) [.int 5] rfl rfl rfl (fun r ws' hp => ?_)
              obtain ⟨rfl, -⟩ := hp
              rw [sln_2]
              show J x 4 (ad, 0, 0) (36, [(0, .ref 20), (1, .int (nI s)), (2, .ref 1002), (3, .int 5)], [.int 5, .int 5], [(20, rO t e pl fd lt ct), (21, .inr (.inl (1, ty)))])
              refine J.run (sn_X4_isWord F) 2 [1] (S' := (64, [(0, .ref 20), (1, .int (nI s)), (2, .ref 1002), (3, .int 5)], [.int 1], [(20, rO t e pl fd lt ct), (21, .inr (.inl (1, ty)))])) (ob := [5 ≤ (5 : Int32)]) rfl (ob_c (by decide) ob_n) ?_
              exact J.iret F hR (Nat.le_refl _) (Nat.le_refl _) rfl rfl (by decide +kernel) ⟨rfl, keq [20, 21] rfl rfl, by rw [wd_2]; simp only [hn, eq_true h1, eq_true h2, eq_true h3, eq_true h4, eq_true h5, ↓reduceIte, ite_self, Bool.false_eq_true, cond_true, cond_false, Bool.true_and, Bool.false_and, Bool.and_true, Bool.and_false, Bool.true_or, Bool.false_or, Bool.or_true, Bool.or_false, Bool.not_true, Bool.not_false, decide_true, decide_false, b2i_t, b2i_f], rfl⟩
            · skip
              refine J.run (sn_X4_isWord F) 2 [0] (S' := (56, [(0, .ref 20), (1, .int (nI s)), (2, .ref 1002), (3, .int 4)], [.int 0], [(20, rO t e pl fd lt ct), (21, .inr (.inl (1, ty)))])) (ob := [¬ (gi ty (s + 4)) = 104]) rfl (ob_c h5 ob_n) ?_
              exact J.iret F hR (Nat.le_refl _) (Nat.le_refl _) rfl rfl (by decide +kernel) ⟨rfl, keq [20, 21] rfl rfl, by rw [wd_2]; simp only [hn, eq_true h1, eq_true h2, eq_true h3, eq_true h4, h5, ↓reduceIte, ite_self, Bool.false_eq_true, cond_true, cond_false, Bool.true_and, Bool.false_and, Bool.and_true, Bool.and_false, Bool.true_or, Bool.false_or, Bool.or_true, Bool.or_false, Bool.not_true, Bool.not_false, decide_true, decide_false, b2i_t, b2i_f], rfl⟩
          · skip
            refine J.run (sn_X4_isWord F) 2 [0] (S' := (56, [(0, .ref 20), (1, .int (nI s)), (2, .ref 1002), (3, .int 3)], [.int 0], [(20, rO t e pl fd lt ct), (21, .inr (.inl (1, ty)))])) (ob := [¬ (gi ty (s + 3)) = 103]) rfl (ob_c h4 ob_n) ?_
            exact J.iret F hR (Nat.le_refl _) (Nat.le_refl _) rfl rfl (by decide +kernel) ⟨rfl, keq [20, 21] rfl rfl, by rw [wd_2]; simp only [hn, eq_true h1, eq_true h2, eq_true h3, h4, ↓reduceIte, ite_self, Bool.false_eq_true, cond_true, cond_false, Bool.true_and, Bool.false_and, Bool.and_true, Bool.and_false, Bool.true_or, Bool.false_or, Bool.or_true, Bool.or_false, Bool.not_true, Bool.not_false, decide_true, decide_false, b2i_t, b2i_f], rfl⟩
        · skip
          refine J.run (sn_X4_isWord F) 2 [0] (S' := (56, [(0, .ref 20), (1, .int (nI s)), (2, .ref 1002), (3, .int 2)], [.int 0], [(20, rO t e pl fd lt ct), (21, .inr (.inl (1, ty)))])) (ob := [¬ (gi ty (s + 2)) = 117]) rfl (ob_c h3 ob_n) ?_
          exact J.iret F hR (Nat.le_refl _) (Nat.le_refl _) rfl rfl (by decide +kernel) ⟨rfl, keq [20, 21] rfl rfl, by rw [wd_2]; simp only [hn, eq_true h1, eq_true h2, h3, ↓reduceIte, ite_self, Bool.false_eq_true, cond_true, cond_false, Bool.true_and, Bool.false_and, Bool.and_true, Bool.and_false, Bool.true_or, Bool.false_or, Bool.or_true, Bool.or_false, Bool.not_true, Bool.not_false, decide_true, decide_false, b2i_t, b2i_f], rfl⟩
      · skip
        refine J.run (sn_X4_isWord F) 2 [0] (S' := (56, [(0, .ref 20), (1, .int (nI s)), (2, .ref 1002), (3, .int 1)], [.int 0], [(20, rO t e pl fd lt ct), (21, .inr (.inl (1, ty)))])) (ob := [¬ (gi ty (s + 1)) = 111]) rfl (ob_c h2 ob_n) ?_
        exact J.iret F hR (Nat.le_refl _) (Nat.le_refl _) rfl rfl (by decide +kernel) ⟨rfl, keq [20, 21] rfl rfl, by rw [wd_2]; simp only [hn, eq_true h1, h2, ↓reduceIte, ite_self, Bool.false_eq_true, cond_true, cond_false, Bool.true_and, Bool.false_and, Bool.and_true, Bool.and_false, Bool.true_or, Bool.false_or, Bool.or_true, Bool.or_false, Bool.not_true, Bool.not_false, decide_true, decide_false, b2i_t, b2i_f], rfl⟩
    · skip
      refine J.run (sn_X4_isWord F) 2 [0] (S' := (56, [(0, .ref 20), (1, .int (nI s)), (2, .ref 1002), (3, .int 0)], [.int 0], [(20, rO t e pl fd lt ct), (21, .inr (.inl (1, ty)))])) (ob := [¬ (gi ty (s + 0)) = 99]) rfl (ob_c h1 ob_n) ?_
      exact J.iret F hR (Nat.le_refl _) (Nat.le_refl _) rfl rfl (by decide +kernel) ⟨rfl, keq [20, 21] rfl rfl, by rw [wd_2]; simp only [hn, h1, ↓reduceIte, ite_self, Bool.false_eq_true, cond_true, cond_false, Bool.true_and, Bool.false_and, Bool.and_true, Bool.and_false, Bool.true_or, Bool.false_or, Bool.or_true, Bool.or_false, Bool.not_true, Bool.not_false, decide_true, decide_false, b2i_t, b2i_f], rfl⟩
  · skip
    refine J.run (sn_X4_isWord F) 10 [0, 0] (S' := (20, [(0, .ref 20), (1, .int (nI s)), (2, .ref 1002)], [.int ((nI e) - (nI s))], [(20, rO t e pl fd lt ct), (21, .inr (.inl (1, ty)))])) (ob := [¬ (nI s) < 0, ¬ 400 < (nI e)]) rfl (ob_c (n_nlt0 (by omega)) (ob_c (n_nlt (a := 400) (by omega) (by omega) he) ob_n)) ?_
    refine J.run (sn_X4_isWord F) 1 [] (S' := (21, [(0, .ref 20), (1, .int (nI s)), (2, .ref 1002)], [.ref 1002, .int ((nI e) - (nI s))], [(20, rO t e pl fd lt ct), (21, .inr (.inl (1, ty)))])) (ob := []) rfl (ob_n) ?_
    refine J.callVS F hJ lk_X4_117 im_J0_length_8abf5 se_J0_length_8abf5 (by decide +kernel) (c_slen 2 (by decide)) (by decide) rfl (by decide) [.int ((nI e) - (nI s))] rfl rfl rfl (fun r ws' hp => ?_)
    obtain ⟨rfl, -⟩ := hp
    rw [sln_2]
    show J x 4 (ad, 0, 0) (24, [(0, .ref 20), (1, .int (nI s)), (2, .ref 1002)], [.int 5, .int ((nI e) - (nI s))], [(20, rO t e pl fd lt ct), (21, .inr (.inl (1, ty)))])
    refine J.run (sn_X4_isWord F) 2 [0] (S' := (28, [(0, .ref 20), (1, .int (nI s)), (2, .ref 1002)], [.int 0], [(20, rO t e pl fd lt ct), (21, .inr (.inl (1, ty)))])) (ob := [¬ ((nI e) - (nI s)) = 5]) rfl (ob_c (by rw [nI_sub hse]; exact n_ne (b := 5) (by omega) (by omega) hn) ob_n) ?_
    exact J.iret F hR (Nat.le_refl _) (Nat.le_refl _) rfl rfl (by decide +kernel) ⟨rfl, keq [20, 21] rfl rfl, by rw [wd_2]; simp only [hn, ↓reduceIte, ite_self, Bool.false_eq_true, cond_true, cond_false, Bool.true_and, Bool.false_and, Bool.and_true, Bool.and_false, Bool.true_or, Bool.false_or, Bool.or_true, Bool.or_false, Bool.not_true, Bool.not_false, decide_true, decide_false, b2i_t, b2i_f], rfl⟩
set_option maxHeartbeats 4000000 in
set_option maxRecDepth 100000 in
theorem c_isW3 (ty : List Int32) (hty : ty.length = 400) (t : Nat) (s e : Nat) (hse : s ≤ e) (he : e ≤ 400) (pl fd lt ct : Int32) : Ctr mk_X4_isWord 5 [.ref 20, .int (nI s), .ref 1003] [(20, rO t e pl fd lt ct), (21, .inr (.inl (1, ty)))] (fun r u => r = some (.int (b2i (wdB ty s e 3))) ∧ u = [(20, rO t e pl fd lt ct), (21, .inr (.inl (1, ty)))]) := by
  refine Ctr.of rfl (Nat.le_of_ble_eq_true rfl) ?_
  intro x ad F hJ hR
  by_cases hn : e - s = 7
  · skip
    refine J.run (sn_X4_isWord F) 10 [0, 0] (S' := (20, [(0, .ref 20), (1, .int (nI s)), (2, .ref 1003)], [.int ((nI e) - (nI s))], [(20, rO t e pl fd lt ct), (21, .inr (.inl (1, ty)))])) (ob := [¬ (nI s) < 0, ¬ 400 < (nI e)]) rfl (ob_c (n_nlt0 (by omega)) (ob_c (n_nlt (a := 400) (by omega) (by omega) he) ob_n)) ?_
    refine J.run (sn_X4_isWord F) 1 [] (S' := (21, [(0, .ref 20), (1, .int (nI s)), (2, .ref 1003)], [.ref 1003, .int ((nI e) - (nI s))], [(20, rO t e pl fd lt ct), (21, .inr (.inl (1, ty)))])) (ob := []) rfl (ob_n) ?_
    refine J.callVS F hJ lk_X4_117 im_J0_length_8abf5 se_J0_length_8abf5 (by decide +kernel) (c_slen 3 (by decide)) (by decide) rfl (by decide) [.int ((nI e) - (nI s))] rfl rfl rfl (fun r ws' hp => ?_)
    obtain ⟨rfl, -⟩ := hp
    rw [sln_3]
    show J x 4 (ad, 0, 0) (24, [(0, .ref 20), (1, .int (nI s)), (2, .ref 1003)], [.int 7, .int ((nI e) - (nI s))], [(20, rO t e pl fd lt ct), (21, .inr (.inl (1, ty)))])
    refine J.run (sn_X4_isWord F) 5 [1] (S' := (33, [(0, .ref 20), (1, .int (nI s)), (2, .ref 1003), (3, .int 0)], [.ref 1003, .int 0], [(20, rO t e pl fd lt ct), (21, .inr (.inl (1, ty)))])) (ob := [((nI e) - (nI s)) = 7]) rfl (ob_c (by rw [nI_sub hse, hn]; rfl) ob_n) ?_
    refine J.callVS F hJ lk_X4_117 im_J0_length_8abf5 se_J0_length_8abf5 (by decide +kernel) (c_slen 3 (by decide)) (by decide) rfl (by decide) [.int 0] rfl rfl rfl (fun r ws' hp => ?_)
    obtain ⟨rfl, -⟩ := hp
    rw [sln_3]
    show J x 4 (ad, 0, 0) (36, [(0, .ref 20), (1, .int (nI s)), (2, .ref 1003), (3, .int 0)], [.int 7, .int 0], [(20, rO t e pl fd lt ct), (21, .inr (.inl (1, ty)))])
    refine J.run (sn_X4_isWord F) 9 [0, (s + 0)] (S' := (49, [(0, .ref 20), (1, .int (nI s)), (2, .ref 1003), (3, .int 0)], [.int 0, .ref 1003, .int (gi ty (s + 0))], [(20, rO t e pl fd lt ct), (21, .inr (.inl (1, ty)))])) (ob := [¬ 7 ≤ (0 : Int32), ix ((nI s) + 0) (s + 0) ty.length]) rfl (ob_c (by decide) (ob_c (ix_len hty (ix_eq (nI_k s 0) (ix_nI (by omega) (by decide)))) ob_n)) ?_
    refine J.callVS F hJ lk_X4_121 im_J0_charAt_5068e se_J0_charAt_5068e (by decide +kernel) (c_chAt 3 (by decide) 0 (by decide) (by decide) chn_3_0) (by decide) rfl (by decide) [.int (gi ty (s + 0))] rfl rfl rfl (fun r ws' hp => ?_)
    obtain ⟨rfl, -⟩ := hp
    rw [chV_3_0]
    show J x 4 (ad, 0, 0) (52, [(0, .ref 20), (1, .int (nI s)), (2, .ref 1003), (3, .int 0)], [.int 115, .int (gi ty (s + 0))], [(20, rO t e pl fd lt ct), (21, .inr (.inl (1, ty)))])
    by_cases h1 : (gi ty (s + 0)) = 115
    · skip
      refine J.run (sn_X4_isWord F) 5 [1] (S' := (33, [(0, .ref 20), (1, .int (nI s)), (2, .ref 1003), (3, .int 1)], [.ref 1003, .int 1], [(20, rO t e pl fd lt ct), (21, .inr (.inl (1, ty)))])) (ob := [(gi ty (s + 0)) = 115]) rfl (ob_c h1 ob_n) ?_
      refine J.callVS F hJ lk_X4_117 im_J0_length_8abf5 se_J0_length_8abf5 (by decide +kernel) (c_slen 3 (by decide)) (by decide) rfl (by decide) [.int 1] rfl rfl rfl (fun r ws' hp => ?_)
      obtain ⟨rfl, -⟩ := hp
      rw [sln_3]
      show J x 4 (ad, 0, 0) (36, [(0, .ref 20), (1, .int (nI s)), (2, .ref 1003), (3, .int 1)], [.int 7, .int 1], [(20, rO t e pl fd lt ct), (21, .inr (.inl (1, ty)))])
      refine J.run (sn_X4_isWord F) 9 [0, (s + 1)] (S' := (49, [(0, .ref 20), (1, .int (nI s)), (2, .ref 1003), (3, .int 1)], [.int 1, .ref 1003, .int (gi ty (s + 1))], [(20, rO t e pl fd lt ct), (21, .inr (.inl (1, ty)))])) (ob := [¬ 7 ≤ (1 : Int32), ix ((nI s) + 1) (s + 1) ty.length]) rfl (ob_c (by decide) (ob_c (ix_len hty (ix_eq (nI_k s 1) (ix_nI (by omega) (by decide)))) ob_n)) ?_
      refine J.callVS F hJ lk_X4_121 im_J0_charAt_5068e se_J0_charAt_5068e (by decide +kernel) (c_chAt 3 (by decide) 1 (by decide) (by decide) chn_3_1) (by decide) rfl (by decide) [.int (gi ty (s + 1))] rfl rfl rfl (fun r ws' hp => ?_)
      obtain ⟨rfl, -⟩ := hp
      rw [chV_3_1]
      show J x 4 (ad, 0, 0) (52, [(0, .ref 20), (1, .int (nI s)), (2, .ref 1003), (3, .int 1)], [.int 116, .int (gi ty (s + 1))], [(20, rO t e pl fd lt ct), (21, .inr (.inl (1, ty)))])
      by_cases h2 : (gi ty (s + 1)) = 116
      · skip
        refine J.run (sn_X4_isWord F) 5 [1] (S' := (33, [(0, .ref 20), (1, .int (nI s)), (2, .ref 1003), (3, .int 2)], [.ref 1003, .int 2], [(20, rO t e pl fd lt ct), (21, .inr (.inl (1, ty)))])) (ob := [(gi ty (s + 1)) = 116]) rfl (ob_c h2 ob_n) ?_
        refine J.callVS F hJ lk_X4_117 im_J0_length_8abf5 se_J0_length_8abf5 (by decide +kernel) (c_slen 3 (by decide)) (by decide) rfl (by decide) [.int 2] rfl rfl rfl (fun r ws' hp => ?_)
        obtain ⟨rfl, -⟩ := hp
        rw [sln_3]
        show J x 4 (ad, 0, 0) (36, [(0, .ref 20), (1, .int (nI s)), (2, .ref 1003), (3, .int 2)], [.int 7, .int 2], [(20, rO t e pl fd lt ct), (21, .inr (.inl (1, ty)))])
        refine J.run (sn_X4_isWord F) 9 [0, (s + 2)] (S' := (49, [(0, .ref 20), (1, .int (nI s)), (2, .ref 1003), (3, .int 2)], [.int 2, .ref 1003, .int (gi ty (s + 2))], [(20, rO t e pl fd lt ct), (21, .inr (.inl (1, ty)))])) (ob := [¬ 7 ≤ (2 : Int32), ix ((nI s) + 2) (s + 2) ty.length]) rfl (ob_c (by decide) (ob_c (ix_len hty (ix_eq (nI_k s 2) (ix_nI (by omega) (by decide)))) ob_n)) ?_
        refine J.callVS F hJ lk_X4_121 im_J0_charAt_5068e se_J0_charAt_5068e (by decide +kernel) (c_chAt 3 (by decide) 2 (by decide) (by decide) chn_3_2) (by decide) rfl (by decide) [.int (gi ty (s + 2))] rfl rfl rfl (fun r ws' hp => ?_)
        obtain ⟨rfl, -⟩ := hp
        rw [chV_3_2]
        show J x 4 (ad, 0, 0) (52, [(0, .ref 20), (1, .int (nI s)), (2, .ref 1003), (3, .int 2)], [.int 111, .int (gi ty (s + 2))], [(20, rO t e pl fd lt ct), (21, .inr (.inl (1, ty)))])
        by_cases h3 : (gi ty (s + 2)) = 111
        · skip
          refine J.run (sn_X4_isWord F) 5 [1] (S' := (33, [(0, .ref 20), (1, .int (nI s)), (2, .ref 1003), (3, .int 3)], [.ref 1003, .int 3], [(20, rO t e pl fd lt ct), (21, .inr (.inl (1, ty)))])) (ob := [(gi ty (s + 2)) = 111]) rfl (ob_c h3 ob_n) ?_
          refine J.callVS F hJ lk_X4_117 im_J0_length_8abf5 se_J0_length_8abf5 (by decide +kernel) (c_slen 3 (by decide)) (by decide) rfl (by decide) [.int 3] rfl rfl rfl (fun r ws' hp => ?_)
          obtain ⟨rfl, -⟩ := hp
          rw [sln_3]
          show J x 4 (ad, 0, 0) (36, [(0, .ref 20), (1, .int (nI s)), (2, .ref 1003), (3, .int 3)], [.int 7, .int 3], [(20, rO t e pl fd lt ct), (21, .inr (.inl (1, ty)))])
          refine J.run (sn_X4_isWord F) 9 [0, (s + 3)] (S' := (49, [(0, .ref 20), (1, .int (nI s)), (2, .ref 1003), (3, .int 3)], [.int 3, .ref 1003, .int (gi ty (s + 3))], [(20, rO t e pl fd lt ct), (21, .inr (.inl (1, ty)))])) (ob := [¬ 7 ≤ (3 : Int32), ix ((nI s) + 3) (s + 3) ty.length]) rfl (ob_c (by decide) (ob_c (ix_len hty (ix_eq (nI_k s 3) (ix_nI (by omega) (by decide)))) ob_n)) ?_
          refine J.callVS F hJ lk_X4_121 im_J0_charAt_5068e se_J0_charAt_5068e (by decide +kernel) (c_chAt 3 (by decide) 3 (by decide) (by decide) chn_3_3) (by decide) rfl (by decide) [.int (gi ty (s + 3))] rfl rfl rfl (fun r ws' hp => ?_)
          obtain ⟨rfl, -⟩ := hp
          rw [chV_3_3]
          show J x 4 (ad, 0, 0) (52, [(0, .ref 20), (1, .int (nI s)), (2, .ref 1003), (3, .int 3)], [.int 112, .int (gi ty (s + 3))], [(20, rO t e pl fd lt ct), (21, .inr (.inl (1, ty)))])
          by_cases h4 : (gi ty (s + 3)) = 112
          · skip
            refine J.run (sn_X4_isWord F) 5 [1] (S' := (33, [(0, .ref 20), (1, .int (nI s)), (2, .ref 1003), (3, .int 4)], [.ref 1003, .int 4], [(20, rO t e pl fd lt ct), (21, .inr (.inl (1, ty)))])) (ob := [(gi ty (s + 3)) = 112]) rfl (ob_c h4 ob_n) ?_
            refine J.callVS F hJ lk_X4_117 im_J0_length_8abf5 se_J0_length_8abf5 (by decide +kernel) (c_slen 3 (by decide)) (by decide) rfl (by decide) [.int 4] rfl rfl rfl (fun r ws' hp => ?_)
            obtain ⟨rfl, -⟩ := hp
            rw [sln_3]
            show J x 4 (ad, 0, 0) (36, [(0, .ref 20), (1, .int (nI s)), (2, .ref 1003), (3, .int 4)], [.int 7, .int 4], [(20, rO t e pl fd lt ct), (21, .inr (.inl (1, ty)))])
            refine J.run (sn_X4_isWord F) 9 [0, (s + 4)] (S' := (49, [(0, .ref 20), (1, .int (nI s)), (2, .ref 1003), (3, .int 4)], [.int 4, .ref 1003, .int (gi ty (s + 4))], [(20, rO t e pl fd lt ct), (21, .inr (.inl (1, ty)))])) (ob := [¬ 7 ≤ (4 : Int32), ix ((nI s) + 4) (s + 4) ty.length]) rfl (ob_c (by decide) (ob_c (ix_len hty (ix_eq (nI_k s 4) (ix_nI (by omega) (by decide)))) ob_n)) ?_
            refine J.callVS F hJ lk_X4_121 im_J0_charAt_5068e se_J0_charAt_5068e (by decide +kernel) (c_chAt 3 (by decide) 4 (by decide) (by decide) chn_3_4) (by decide) rfl (by decide) [.int (gi ty (s + 4))] rfl rfl rfl (fun r ws' hp => ?_)
            obtain ⟨rfl, -⟩ := hp
            rw [chV_3_4]
            show J x 4 (ad, 0, 0) (52, [(0, .ref 20), (1, .int (nI s)), (2, .ref 1003), (3, .int 4)], [.int 112, .int (gi ty (s + 4))], [(20, rO t e pl fd lt ct), (21, .inr (.inl (1, ty)))])
            by_cases h5 : (gi ty (s + 4)) = 112
            · skip
              refine J.run (sn_X4_isWord F) 5 [1] (S' := (33, [(0, .ref 20), (1, .int (nI s)), (2, .ref 1003), (3, .int 5)], [.ref 1003, .int 5], [(20, rO t e pl fd lt ct), (21, .inr (.inl (1, ty)))])) (ob := [(gi ty (s + 4)) = 112]) rfl (ob_c h5 ob_n) ?_
              refine J.callVS F hJ lk_X4_117 im_J0_length_8abf5 se_J0_length_8abf5 (by decide +kernel) (c_slen 3 (by decide)) (by decide) rfl (by decide) [.int 5] rfl rfl rfl (fun r ws' hp => ?_)
              obtain ⟨rfl, -⟩ := hp
              rw [sln_3]
              show J x 4 (ad, 0, 0) (36, [(0, .ref 20), (1, .int (nI s)), (2, .ref 1003), (3, .int 5)], [.int 7, .int 5], [(20, rO t e pl fd lt ct), (21, .inr (.inl (1, ty)))])
              refine J.run (sn_X4_isWord F) 9 [0, (s + 5)] (S' := (49, [(0, .ref 20), (1, .int (nI s)), (2, .ref 1003), (3, .int 5)], [.int 5, .ref 1003, .int (gi ty (s + 5))], [(20, rO t e pl fd lt ct), (21, .inr (.inl (1, ty)))])) (ob := [¬ 7 ≤ (5 : Int32), ix ((nI s) + 5) (s + 5) ty.length]) rfl (ob_c (by decide) (ob_c (ix_len hty (ix_eq (nI_k s 5) (ix_nI (by omega) (by decide)))) ob_n)) ?_
              refine J.callVS F hJ lk_X4_121 im_J0_charAt_5068e se_J0_charAt_5068e (by decide +kernel) (c_chAt 3 (by decide) 5 (by decide) (by decide) chn_3_5) (by decide) rfl (by decide) [.int (gi ty (s + 5))] rfl rfl rfl (fun r ws' hp => ?_)
              obtain ⟨rfl, -⟩ := hp
              rw [chV_3_5]
              show J x 4 (ad, 0, 0) (52, [(0, .ref 20), (1, .int (nI s)), (2, .ref 1003), (3, .int 5)], [.int 101, .int (gi ty (s + 5))], [(20, rO t e pl fd lt ct), (21, .inr (.inl (1, ty)))])
              by_cases h6 : (gi ty (s + 5)) = 101
              · skip
                refine J.run (sn_X4_isWord F) 5 [1] (S' := (33, [(0, .ref 20), (1, .int (nI s)), (2, .ref 1003), (3, .int 6)], [.ref 1003, .int 6], [(20, rO t e pl fd lt ct), (21, .inr (.inl (1, ty)))])) (ob := [(gi ty (s + 5)) = 101]) rfl (ob_c h6 ob_n) ?_
                refine J.callVS F hJ lk_X4_117 im_J0_length_8abf5 se_J0_length_8abf5 (by decide +kernel) (c_slen 3 (by decide)) (by decide) rfl (by decide) [.int 6] rfl rfl rfl (fun r ws' hp => ?_)
                obtain ⟨rfl, -⟩ := hp
                rw [sln_3]
                show J x 4 (ad, 0, 0) (36, [(0, .ref 20), (1, .int (nI s)), (2, .ref 1003), (3, .int 6)], [.int 7, .int 6], [(20, rO t e pl fd lt ct), (21, .inr (.inl (1, ty)))])
                refine J.run (sn_X4_isWord F) 9 [0, (s + 6)] (S' := (49, [(0, .ref 20), (1, .int (nI s)), (2, .ref 1003), (3, .int 6)], [.int 6, .ref 1003, .int (gi ty (s + 6))], [(20, rO t e pl fd lt ct), (21, .inr (.inl (1, ty)))])) (ob := [¬ 7 ≤ (6 : Int32), ix ((nI s) + 6) (s + 6) ty.length]) rfl (ob_c (by decide) (ob_c (ix_len hty (ix_eq (nI_k s 6) (ix_nI (by omega) (by decide)))) ob_n)) ?_
                refine J.callVS F hJ lk_X4_121 im_J0_charAt_5068e se_J0_charAt_5068e (by decide +kernel) (c_chAt 3 (by decide) 6 (by decide) (by decide) chn_3_6) (by decide) rfl (by decide) [.int (gi ty (s + 6))] rfl rfl rfl (fun r ws' hp => ?_)
                obtain ⟨rfl, -⟩ := hp
                rw [chV_3_6]
                show J x 4 (ad, 0, 0) (52, [(0, .ref 20), (1, .int (nI s)), (2, .ref 1003), (3, .int 6)], [.int 100, .int (gi ty (s + 6))], [(20, rO t e pl fd lt ct), (21, .inr (.inl (1, ty)))])
                by_cases h7 : (gi ty (s + 6)) = 100
                · skip
                  refine J.run (sn_X4_isWord F) 5 [1] (S' := (33, [(0, .ref 20), (1, .int (nI s)), (2, .ref 1003), (3, .int 7)], [.ref 1003, .int 7], [(20, rO t e pl fd lt ct), (21, .inr (.inl (1, ty)))])) (ob := [(gi ty (s + 6)) = 100]) rfl (ob_c h7 ob_n) ?_
                  refine J.callVS F hJ lk_X4_117 im_J0_length_8abf5 se_J0_length_8abf5 (by decide +kernel) (c_slen 3 (by decide)) (by decide) rfl (by decide) [.int 7] rfl rfl rfl (fun r ws' hp => ?_)
                  obtain ⟨rfl, -⟩ := hp
                  rw [sln_3]
                  show J x 4 (ad, 0, 0) (36, [(0, .ref 20), (1, .int (nI s)), (2, .ref 1003), (3, .int 7)], [.int 7, .int 7], [(20, rO t e pl fd lt ct), (21, .inr (.inl (1, ty)))])
                  refine J.run (sn_X4_isWord F) 2 [1] (S' := (64, [(0, .ref 20), (1, .int (nI s)), (2, .ref 1003), (3, .int 7)], [.int 1], [(20, rO t e pl fd lt ct), (21, .inr (.inl (1, ty)))])) (ob := [7 ≤ (7 : Int32)]) rfl (ob_c (by decide) ob_n) ?_
                  exact J.iret F hR (Nat.le_refl _) (Nat.le_refl _) rfl rfl (by decide +kernel) ⟨rfl, keq [20, 21] rfl rfl, by rw [wd_3]; simp only [hn, eq_true h1, eq_true h2, eq_true h3, eq_true h4, eq_true h5, eq_true h6, eq_true h7, ↓reduceIte, ite_self, Bool.false_eq_true, cond_true, cond_false, Bool.true_and, Bool.false_and, Bool.and_true, Bool.and_false, Bool.true_or, Bool.false_or, Bool.or_true, Bool.or_false, Bool.not_true, Bool.not_false, decide_true, decide_false, b2i_t, b2i_f], rfl⟩
                · skip
                  refine J.run (sn_X4_isWord F) 2 [0] (S' := (56, [(0, .ref 20), (1, .int (nI s)), (2, .ref 1003), (3, .int 6)], [.int 0], [(20, rO t e pl fd lt ct), (21, .inr (.inl (1, ty)))])) (ob := [¬ (gi ty (s + 6)) = 100]) rfl (ob_c h7 ob_n) ?_
                  exact J.iret F hR (Nat.le_refl _) (Nat.le_refl _) rfl rfl (by decide +kernel) ⟨rfl, keq [20, 21] rfl rfl, by rw [wd_3]; simp only [hn, eq_true h1, eq_true h2, eq_true h3, eq_true h4, eq_true h5, eq_true h6, h7, ↓reduceIte, ite_self, Bool.false_eq_true, cond_true, cond_false, Bool.true_and, Bool.false_and, Bool.and_true, Bool.and_false, Bool.true_or, Bool.false_or, Bool.or_true, Bool.or_false, Bool.not_true, Bool.not_false, decide_true, decide_false, b2i_t, b2i_f], rfl⟩
              · skip
                refine J.run (sn_X4_isWord F) 2 [0] (S' := (56, [(0, .ref 20), (1, .int (nI s)), (2, .ref 1003), (3, .int 5)], [.int 0], [(20, rO t e pl fd lt ct), (21, .inr (.inl (1, ty)))])) (ob := [¬ (gi ty (s + 5)) = 101]) rfl (ob_c h6 ob_n) ?_
                exact J.iret F hR (Nat.le_refl _) (Nat.le_refl _) rfl rfl (by decide +kernel) ⟨rfl, keq [20, 21] rfl rfl, by rw [wd_3]; simp only [hn, eq_true h1, eq_true h2, eq_true h3, eq_true h4, eq_true h5, h6, ↓reduceIte, ite_self, Bool.false_eq_true, cond_true, cond_false, Bool.true_and, Bool.false_and, Bool.and_true, Bool.and_false, Bool.true_or, Bool.false_or, Bool.or_true, Bool.or_false, Bool.not_true, Bool.not_false, decide_true, decide_false, b2i_t, b2i_f], rfl⟩
            · skip
              refine J.run (sn_X4_isWord F) 2 [0] (S' := (56, [(0, .ref 20), (1, .int (nI s)), (2, .ref 1003), (3, .int 4)], [.int 0], [(20, rO t e pl fd lt ct), (21, .inr (.inl (1, ty)))])) (ob := [¬ (gi ty (s + 4)) = 112]) rfl (ob_c h5 ob_n) ?_
              exact J.iret F hR (Nat.le_refl _) (Nat.le_refl _) rfl rfl (by decide +kernel) ⟨rfl, keq [20, 21] rfl rfl, by rw [wd_3]; simp only [hn, eq_true h1, eq_true h2, eq_true h3, eq_true h4, h5, ↓reduceIte, ite_self, Bool.false_eq_true, cond_true, cond_false, Bool.true_and, Bool.false_and, Bool.and_true, Bool.and_false, Bool.true_or, Bool.false_or, Bool.or_true, Bool.or_false, Bool.not_true, Bool.not_false, decide_true, decide_false, b2i_t, b2i_f], rfl⟩
          · skip
            refine J.run (sn_X4_isWord F) 2 [0] (S' := (56, [(0, .ref 20), (1, .int (nI s)), (2, .ref 1003), (3, .int 3)], [.int 0], [(20, rO t e pl fd lt ct), (21, .inr (.inl (1, ty)))])) (ob := [¬ (gi ty (s + 3)) = 112]) rfl (ob_c h4 ob_n) ?_
            exact J.iret F hR (Nat.le_refl _) (Nat.le_refl _) rfl rfl (by decide +kernel) ⟨rfl, keq [20, 21] rfl rfl, by rw [wd_3]; simp only [hn, eq_true h1, eq_true h2, eq_true h3, h4, ↓reduceIte, ite_self, Bool.false_eq_true, cond_true, cond_false, Bool.true_and, Bool.false_and, Bool.and_true, Bool.and_false, Bool.true_or, Bool.false_or, Bool.or_true, Bool.or_false, Bool.not_true, Bool.not_false, decide_true, decide_false, b2i_t, b2i_f], rfl⟩
        · skip
          refine J.run (sn_X4_isWord F) 2 [0] (S' := (56, [(0, .ref 20), (1, .int (nI s)), (2, .ref 1003), (3, .int 2)], [.int 0], [(20, rO t e pl fd lt ct), (21, .inr (.inl (1, ty)))])) (ob := [¬ (gi ty (s + 2)) = 111]) rfl (ob_c h3 ob_n) ?_
          exact J.iret F hR (Nat.le_refl _) (Nat.le_refl _) rfl rfl (by decide +kernel) ⟨rfl, keq [20, 21] rfl rfl, by rw [wd_3]; simp only [hn, eq_true h1, eq_true h2, h3, ↓reduceIte, ite_self, Bool.false_eq_true, cond_true, cond_false, Bool.true_and, Bool.false_and, Bool.and_true, Bool.and_false, Bool.true_or, Bool.false_or, Bool.or_true, Bool.or_false, Bool.not_true, Bool.not_false, decide_true, decide_false, b2i_t, b2i_f], rfl⟩
      · skip
        refine J.run (sn_X4_isWord F) 2 [0] (S' := (56, [(0, .ref 20), (1, .int (nI s)), (2, .ref 1003), (3, .int 1)], [.int 0], [(20, rO t e pl fd lt ct), (21, .inr (.inl (1, ty)))])) (ob := [¬ (gi ty (s + 1)) = 116]) rfl (ob_c h2 ob_n) ?_
        exact J.iret F hR (Nat.le_refl _) (Nat.le_refl _) rfl rfl (by decide +kernel) ⟨rfl, keq [20, 21] rfl rfl, by rw [wd_3]; simp only [hn, eq_true h1, h2, ↓reduceIte, ite_self, Bool.false_eq_true, cond_true, cond_false, Bool.true_and, Bool.false_and, Bool.and_true, Bool.and_false, Bool.true_or, Bool.false_or, Bool.or_true, Bool.or_false, Bool.not_true, Bool.not_false, decide_true, decide_false, b2i_t, b2i_f], rfl⟩
    · skip
      refine J.run (sn_X4_isWord F) 2 [0] (S' := (56, [(0, .ref 20), (1, .int (nI s)), (2, .ref 1003), (3, .int 0)], [.int 0], [(20, rO t e pl fd lt ct), (21, .inr (.inl (1, ty)))])) (ob := [¬ (gi ty (s + 0)) = 115]) rfl (ob_c h1 ob_n) ?_
      exact J.iret F hR (Nat.le_refl _) (Nat.le_refl _) rfl rfl (by decide +kernel) ⟨rfl, keq [20, 21] rfl rfl, by rw [wd_3]; simp only [hn, h1, ↓reduceIte, ite_self, Bool.false_eq_true, cond_true, cond_false, Bool.true_and, Bool.false_and, Bool.and_true, Bool.and_false, Bool.true_or, Bool.false_or, Bool.or_true, Bool.or_false, Bool.not_true, Bool.not_false, decide_true, decide_false, b2i_t, b2i_f], rfl⟩
  · skip
    refine J.run (sn_X4_isWord F) 10 [0, 0] (S' := (20, [(0, .ref 20), (1, .int (nI s)), (2, .ref 1003)], [.int ((nI e) - (nI s))], [(20, rO t e pl fd lt ct), (21, .inr (.inl (1, ty)))])) (ob := [¬ (nI s) < 0, ¬ 400 < (nI e)]) rfl (ob_c (n_nlt0 (by omega)) (ob_c (n_nlt (a := 400) (by omega) (by omega) he) ob_n)) ?_
    refine J.run (sn_X4_isWord F) 1 [] (S' := (21, [(0, .ref 20), (1, .int (nI s)), (2, .ref 1003)], [.ref 1003, .int ((nI e) - (nI s))], [(20, rO t e pl fd lt ct), (21, .inr (.inl (1, ty)))])) (ob := []) rfl (ob_n) ?_
    refine J.callVS F hJ lk_X4_117 im_J0_length_8abf5 se_J0_length_8abf5 (by decide +kernel) (c_slen 3 (by decide)) (by decide) rfl (by decide) [.int ((nI e) - (nI s))] rfl rfl rfl (fun r ws' hp => ?_)
    obtain ⟨rfl, -⟩ := hp
    rw [sln_3]
    show J x 4 (ad, 0, 0) (24, [(0, .ref 20), (1, .int (nI s)), (2, .ref 1003)], [.int 7, .int ((nI e) - (nI s))], [(20, rO t e pl fd lt ct), (21, .inr (.inl (1, ty)))])
    refine J.run (sn_X4_isWord F) 2 [0] (S' := (28, [(0, .ref 20), (1, .int (nI s)), (2, .ref 1003)], [.int 0], [(20, rO t e pl fd lt ct), (21, .inr (.inl (1, ty)))])) (ob := [¬ ((nI e) - (nI s)) = 7]) rfl (ob_c (by rw [nI_sub hse]; exact n_ne (b := 7) (by omega) (by omega) hn) ob_n) ?_
    exact J.iret F hR (Nat.le_refl _) (Nat.le_refl _) rfl rfl (by decide +kernel) ⟨rfl, keq [20, 21] rfl rfl, by rw [wd_3]; simp only [hn, ↓reduceIte, ite_self, Bool.false_eq_true, cond_true, cond_false, Bool.true_and, Bool.false_and, Bool.and_true, Bool.and_false, Bool.true_or, Bool.false_or, Bool.or_true, Bool.or_false, Bool.not_true, Bool.not_false, decide_true, decide_false, b2i_t, b2i_f], rfl⟩
set_option maxHeartbeats 4000000 in
set_option maxRecDepth 100000 in
theorem c_isW4 (ty : List Int32) (hty : ty.length = 400) (t : Nat) (s e : Nat) (hse : s ≤ e) (he : e ≤ 400) (pl fd lt ct : Int32) : Ctr mk_X4_isWord 5 [.ref 20, .int (nI s), .ref 1004] [(20, rO t e pl fd lt ct), (21, .inr (.inl (1, ty)))] (fun r u => r = some (.int (b2i (wdB ty s e 4))) ∧ u = [(20, rO t e pl fd lt ct), (21, .inr (.inl (1, ty)))]) := by
  refine Ctr.of rfl (Nat.le_of_ble_eq_true rfl) ?_
  intro x ad F hJ hR
  by_cases hn : e - s = 5
  · skip
    refine J.run (sn_X4_isWord F) 10 [0, 0] (S' := (20, [(0, .ref 20), (1, .int (nI s)), (2, .ref 1004)], [.int ((nI e) - (nI s))], [(20, rO t e pl fd lt ct), (21, .inr (.inl (1, ty)))])) (ob := [¬ (nI s) < 0, ¬ 400 < (nI e)]) rfl (ob_c (n_nlt0 (by omega)) (ob_c (n_nlt (a := 400) (by omega) (by omega) he) ob_n)) ?_
    refine J.run (sn_X4_isWord F) 1 [] (S' := (21, [(0, .ref 20), (1, .int (nI s)), (2, .ref 1004)], [.ref 1004, .int ((nI e) - (nI s))], [(20, rO t e pl fd lt ct), (21, .inr (.inl (1, ty)))])) (ob := []) rfl (ob_n) ?_
    refine J.callVS F hJ lk_X4_117 im_J0_length_8abf5 se_J0_length_8abf5 (by decide +kernel) (c_slen 4 (by decide)) (by decide) rfl (by decide) [.int ((nI e) - (nI s))] rfl rfl rfl (fun r ws' hp => ?_)
    obtain ⟨rfl, -⟩ := hp
    rw [sln_4]
    show J x 4 (ad, 0, 0) (24, [(0, .ref 20), (1, .int (nI s)), (2, .ref 1004)], [.int 5, .int ((nI e) - (nI s))], [(20, rO t e pl fd lt ct), (21, .inr (.inl (1, ty)))])
    refine J.run (sn_X4_isWord F) 5 [1] (S' := (33, [(0, .ref 20), (1, .int (nI s)), (2, .ref 1004), (3, .int 0)], [.ref 1004, .int 0], [(20, rO t e pl fd lt ct), (21, .inr (.inl (1, ty)))])) (ob := [((nI e) - (nI s)) = 5]) rfl (ob_c (by rw [nI_sub hse, hn]; rfl) ob_n) ?_
    refine J.callVS F hJ lk_X4_117 im_J0_length_8abf5 se_J0_length_8abf5 (by decide +kernel) (c_slen 4 (by decide)) (by decide) rfl (by decide) [.int 0] rfl rfl rfl (fun r ws' hp => ?_)
    obtain ⟨rfl, -⟩ := hp
    rw [sln_4]
    show J x 4 (ad, 0, 0) (36, [(0, .ref 20), (1, .int (nI s)), (2, .ref 1004), (3, .int 0)], [.int 5, .int 0], [(20, rO t e pl fd lt ct), (21, .inr (.inl (1, ty)))])
    refine J.run (sn_X4_isWord F) 9 [0, (s + 0)] (S' := (49, [(0, .ref 20), (1, .int (nI s)), (2, .ref 1004), (3, .int 0)], [.int 0, .ref 1004, .int (gi ty (s + 0))], [(20, rO t e pl fd lt ct), (21, .inr (.inl (1, ty)))])) (ob := [¬ 5 ≤ (0 : Int32), ix ((nI s) + 0) (s + 0) ty.length]) rfl (ob_c (by decide) (ob_c (ix_len hty (ix_eq (nI_k s 0) (ix_nI (by omega) (by decide)))) ob_n)) ?_
    refine J.callVS F hJ lk_X4_121 im_J0_charAt_5068e se_J0_charAt_5068e (by decide +kernel) (c_chAt 4 (by decide) 0 (by decide) (by decide) chn_4_0) (by decide) rfl (by decide) [.int (gi ty (s + 0))] rfl rfl rfl (fun r ws' hp => ?_)
    obtain ⟨rfl, -⟩ := hp
    rw [chV_4_0]
    show J x 4 (ad, 0, 0) (52, [(0, .ref 20), (1, .int (nI s)), (2, .ref 1004), (3, .int 0)], [.int 98, .int (gi ty (s + 0))], [(20, rO t e pl fd lt ct), (21, .inr (.inl (1, ty)))])
    by_cases h1 : (gi ty (s + 0)) = 98
    · skip
      refine J.run (sn_X4_isWord F) 5 [1] (S' := (33, [(0, .ref 20), (1, .int (nI s)), (2, .ref 1004), (3, .int 1)], [.ref 1004, .int 1], [(20, rO t e pl fd lt ct), (21, .inr (.inl (1, ty)))])) (ob := [(gi ty (s + 0)) = 98]) rfl (ob_c h1 ob_n) ?_
      refine J.callVS F hJ lk_X4_117 im_J0_length_8abf5 se_J0_length_8abf5 (by decide +kernel) (c_slen 4 (by decide)) (by decide) rfl (by decide) [.int 1] rfl rfl rfl (fun r ws' hp => ?_)
      obtain ⟨rfl, -⟩ := hp
      rw [sln_4]
      show J x 4 (ad, 0, 0) (36, [(0, .ref 20), (1, .int (nI s)), (2, .ref 1004), (3, .int 1)], [.int 5, .int 1], [(20, rO t e pl fd lt ct), (21, .inr (.inl (1, ty)))])
      refine J.run (sn_X4_isWord F) 9 [0, (s + 1)] (S' := (49, [(0, .ref 20), (1, .int (nI s)), (2, .ref 1004), (3, .int 1)], [.int 1, .ref 1004, .int (gi ty (s + 1))], [(20, rO t e pl fd lt ct), (21, .inr (.inl (1, ty)))])) (ob := [¬ 5 ≤ (1 : Int32), ix ((nI s) + 1) (s + 1) ty.length]) rfl (ob_c (by decide) (ob_c (ix_len hty (ix_eq (nI_k s 1) (ix_nI (by omega) (by decide)))) ob_n)) ?_
      refine J.callVS F hJ lk_X4_121 im_J0_charAt_5068e se_J0_charAt_5068e (by decide +kernel) (c_chAt 4 (by decide) 1 (by decide) (by decide) chn_4_1) (by decide) rfl (by decide) [.int (gi ty (s + 1))] rfl rfl rfl (fun r ws' hp => ?_)
      obtain ⟨rfl, -⟩ := hp
      rw [chV_4_1]
      show J x 4 (ad, 0, 0) (52, [(0, .ref 20), (1, .int (nI s)), (2, .ref 1004), (3, .int 1)], [.int 101, .int (gi ty (s + 1))], [(20, rO t e pl fd lt ct), (21, .inr (.inl (1, ty)))])
      by_cases h2 : (gi ty (s + 1)) = 101
      · skip
        refine J.run (sn_X4_isWord F) 5 [1] (S' := (33, [(0, .ref 20), (1, .int (nI s)), (2, .ref 1004), (3, .int 2)], [.ref 1004, .int 2], [(20, rO t e pl fd lt ct), (21, .inr (.inl (1, ty)))])) (ob := [(gi ty (s + 1)) = 101]) rfl (ob_c h2 ob_n) ?_
        refine J.callVS F hJ lk_X4_117 im_J0_length_8abf5 se_J0_length_8abf5 (by decide +kernel) (c_slen 4 (by decide)) (by decide) rfl (by decide) [.int 2] rfl rfl rfl (fun r ws' hp => ?_)
        obtain ⟨rfl, -⟩ := hp
        rw [sln_4]
        show J x 4 (ad, 0, 0) (36, [(0, .ref 20), (1, .int (nI s)), (2, .ref 1004), (3, .int 2)], [.int 5, .int 2], [(20, rO t e pl fd lt ct), (21, .inr (.inl (1, ty)))])
        refine J.run (sn_X4_isWord F) 9 [0, (s + 2)] (S' := (49, [(0, .ref 20), (1, .int (nI s)), (2, .ref 1004), (3, .int 2)], [.int 2, .ref 1004, .int (gi ty (s + 2))], [(20, rO t e pl fd lt ct), (21, .inr (.inl (1, ty)))])) (ob := [¬ 5 ≤ (2 : Int32), ix ((nI s) + 2) (s + 2) ty.length]) rfl (ob_c (by decide) (ob_c (ix_len hty (ix_eq (nI_k s 2) (ix_nI (by omega) (by decide)))) ob_n)) ?_
        refine J.callVS F hJ lk_X4_121 im_J0_charAt_5068e se_J0_charAt_5068e (by decide +kernel) (c_chAt 4 (by decide) 2 (by decide) (by decide) chn_4_2) (by decide) rfl (by decide) [.int (gi ty (s + 2))] rfl rfl rfl (fun r ws' hp => ?_)
        obtain ⟨rfl, -⟩ := hp
        rw [chV_4_2]
        show J x 4 (ad, 0, 0) (52, [(0, .ref 20), (1, .int (nI s)), (2, .ref 1004), (3, .int 2)], [.int 103, .int (gi ty (s + 2))], [(20, rO t e pl fd lt ct), (21, .inr (.inl (1, ty)))])
        by_cases h3 : (gi ty (s + 2)) = 103
        · skip
          refine J.run (sn_X4_isWord F) 5 [1] (S' := (33, [(0, .ref 20), (1, .int (nI s)), (2, .ref 1004), (3, .int 3)], [.ref 1004, .int 3], [(20, rO t e pl fd lt ct), (21, .inr (.inl (1, ty)))])) (ob := [(gi ty (s + 2)) = 103]) rfl (ob_c h3 ob_n) ?_
          refine J.callVS F hJ lk_X4_117 im_J0_length_8abf5 se_J0_length_8abf5 (by decide +kernel) (c_slen 4 (by decide)) (by decide) rfl (by decide) [.int 3] rfl rfl rfl (fun r ws' hp => ?_)
          obtain ⟨rfl, -⟩ := hp
          rw [sln_4]
          show J x 4 (ad, 0, 0) (36, [(0, .ref 20), (1, .int (nI s)), (2, .ref 1004), (3, .int 3)], [.int 5, .int 3], [(20, rO t e pl fd lt ct), (21, .inr (.inl (1, ty)))])
          refine J.run (sn_X4_isWord F) 9 [0, (s + 3)] (S' := (49, [(0, .ref 20), (1, .int (nI s)), (2, .ref 1004), (3, .int 3)], [.int 3, .ref 1004, .int (gi ty (s + 3))], [(20, rO t e pl fd lt ct), (21, .inr (.inl (1, ty)))])) (ob := [¬ 5 ≤ (3 : Int32), ix ((nI s) + 3) (s + 3) ty.length]) rfl (ob_c (by decide) (ob_c (ix_len hty (ix_eq (nI_k s 3) (ix_nI (by omega) (by decide)))) ob_n)) ?_
          refine J.callVS F hJ lk_X4_121 im_J0_charAt_5068e se_J0_charAt_5068e (by decide +kernel) (c_chAt 4 (by decide) 3 (by decide) (by decide) chn_4_3) (by decide) rfl (by decide) [.int (gi ty (s + 3))] rfl rfl rfl (fun r ws' hp => ?_)
          obtain ⟨rfl, -⟩ := hp
          rw [chV_4_3]
          show J x 4 (ad, 0, 0) (52, [(0, .ref 20), (1, .int (nI s)), (2, .ref 1004), (3, .int 3)], [.int 97, .int (gi ty (s + 3))], [(20, rO t e pl fd lt ct), (21, .inr (.inl (1, ty)))])
          by_cases h4 : (gi ty (s + 3)) = 97
          · skip
            refine J.run (sn_X4_isWord F) 5 [1] (S' := (33, [(0, .ref 20), (1, .int (nI s)), (2, .ref 1004), (3, .int 4)], [.ref 1004, .int 4], [(20, rO t e pl fd lt ct), (21, .inr (.inl (1, ty)))])) (ob := [(gi ty (s + 3)) = 97]) rfl (ob_c h4 ob_n) ?_
            refine J.callVS F hJ lk_X4_117 im_J0_length_8abf5 se_J0_length_8abf5 (by decide +kernel) (c_slen 4 (by decide)) (by decide) rfl (by decide) [.int 4] rfl rfl rfl (fun r ws' hp => ?_)
            obtain ⟨rfl, -⟩ := hp
            rw [sln_4]
            show J x 4 (ad, 0, 0) (36, [(0, .ref 20), (1, .int (nI s)), (2, .ref 1004), (3, .int 4)], [.int 5, .int 4], [(20, rO t e pl fd lt ct), (21, .inr (.inl (1, ty)))])
            refine J.run (sn_X4_isWord F) 9 [0, (s + 4)] (S' := (49, [(0, .ref 20), (1, .int (nI s)), (2, .ref 1004), (3, .int 4)], [.int 4, .ref 1004, .int (gi ty (s + 4))], [(20, rO t e pl fd lt ct), (21, .inr (.inl (1, ty)))])) (ob := [¬ 5 ≤ (4 : Int32), ix ((nI s) + 4) (s + 4) ty.length]) rfl (ob_c (by decide) (ob_c (ix_len hty (ix_eq (nI_k s 4) (ix_nI (by omega) (by decide)))) ob_n)) ?_
            refine J.callVS F hJ lk_X4_121 im_J0_charAt_5068e se_J0_charAt_5068e (by decide +kernel) (c_chAt 4 (by decide) 4 (by decide) (by decide) chn_4_4) (by decide) rfl (by decide) [.int (gi ty (s + 4))] rfl rfl rfl (fun r ws' hp => ?_)
            obtain ⟨rfl, -⟩ := hp
            rw [chV_4_4]
            show J x 4 (ad, 0, 0) (52, [(0, .ref 20), (1, .int (nI s)), (2, .ref 1004), (3, .int 4)], [.int 110, .int (gi ty (s + 4))], [(20, rO t e pl fd lt ct), (21, .inr (.inl (1, ty)))])
            by_cases h5 : (gi ty (s + 4)) = 110
            · skip
              refine J.run (sn_X4_isWord F) 5 [1] (S' := (33, [(0, .ref 20), (1, .int (nI s)), (2, .ref 1004), (3, .int 5)], [.ref 1004, .int 5], [(20, rO t e pl fd lt ct), (21, .inr (.inl (1, ty)))])) (ob := [(gi ty (s + 4)) = 110]) rfl (ob_c h5 ob_n) ?_
              refine J.callVS F hJ lk_X4_117 im_J0_length_8abf5 se_J0_length_8abf5 (by decide +kernel) (c_slen 4 (by decide)) (by decide) rfl (by decide) [.int 5] rfl rfl rfl (fun r ws' hp => ?_)
              obtain ⟨rfl, -⟩ := hp
              rw [sln_4]
              show J x 4 (ad, 0, 0) (36, [(0, .ref 20), (1, .int (nI s)), (2, .ref 1004), (3, .int 5)], [.int 5, .int 5], [(20, rO t e pl fd lt ct), (21, .inr (.inl (1, ty)))])
              refine J.run (sn_X4_isWord F) 2 [1] (S' := (64, [(0, .ref 20), (1, .int (nI s)), (2, .ref 1004), (3, .int 5)], [.int 1], [(20, rO t e pl fd lt ct), (21, .inr (.inl (1, ty)))])) (ob := [5 ≤ (5 : Int32)]) rfl (ob_c (by decide) ob_n) ?_
              exact J.iret F hR (Nat.le_refl _) (Nat.le_refl _) rfl rfl (by decide +kernel) ⟨rfl, keq [20, 21] rfl rfl, by rw [wd_4]; simp only [hn, eq_true h1, eq_true h2, eq_true h3, eq_true h4, eq_true h5, ↓reduceIte, ite_self, Bool.false_eq_true, cond_true, cond_false, Bool.true_and, Bool.false_and, Bool.and_true, Bool.and_false, Bool.true_or, Bool.false_or, Bool.or_true, Bool.or_false, Bool.not_true, Bool.not_false, decide_true, decide_false, b2i_t, b2i_f], rfl⟩
            · skip
              refine J.run (sn_X4_isWord F) 2 [0] (S' := (56, [(0, .ref 20), (1, .int (nI s)), (2, .ref 1004), (3, .int 4)], [.int 0], [(20, rO t e pl fd lt ct), (21, .inr (.inl (1, ty)))])) (ob := [¬ (gi ty (s + 4)) = 110]) rfl (ob_c h5 ob_n) ?_
              exact J.iret F hR (Nat.le_refl _) (Nat.le_refl _) rfl rfl (by decide +kernel) ⟨rfl, keq [20, 21] rfl rfl, by rw [wd_4]; simp only [hn, eq_true h1, eq_true h2, eq_true h3, eq_true h4, h5, ↓reduceIte, ite_self, Bool.false_eq_true, cond_true, cond_false, Bool.true_and, Bool.false_and, Bool.and_true, Bool.and_false, Bool.true_or, Bool.false_or, Bool.or_true, Bool.or_false, Bool.not_true, Bool.not_false, decide_true, decide_false, b2i_t, b2i_f], rfl⟩
          · skip
            refine J.run (sn_X4_isWord F) 2 [0] (S' := (56, [(0, .ref 20), (1, .int (nI s)), (2, .ref 1004), (3, .int 3)], [.int 0], [(20, rO t e pl fd lt ct), (21, .inr (.inl (1, ty)))])) (ob := [¬ (gi ty (s + 3)) = 97]) rfl (ob_c h4 ob_n) ?_
            exact J.iret F hR (Nat.le_refl _) (Nat.le_refl _) rfl rfl (by decide +kernel) ⟨rfl, keq [20, 21] rfl rfl, by rw [wd_4]; simp only [hn, eq_true h1, eq_true h2, eq_true h3, h4, ↓reduceIte, ite_self, Bool.false_eq_true, cond_true, cond_false, Bool.true_and, Bool.false_and, Bool.and_true, Bool.and_false, Bool.true_or, Bool.false_or, Bool.or_true, Bool.or_false, Bool.not_true, Bool.not_false, decide_true, decide_false, b2i_t, b2i_f], rfl⟩
        · skip
          refine J.run (sn_X4_isWord F) 2 [0] (S' := (56, [(0, .ref 20), (1, .int (nI s)), (2, .ref 1004), (3, .int 2)], [.int 0], [(20, rO t e pl fd lt ct), (21, .inr (.inl (1, ty)))])) (ob := [¬ (gi ty (s + 2)) = 103]) rfl (ob_c h3 ob_n) ?_
          exact J.iret F hR (Nat.le_refl _) (Nat.le_refl _) rfl rfl (by decide +kernel) ⟨rfl, keq [20, 21] rfl rfl, by rw [wd_4]; simp only [hn, eq_true h1, eq_true h2, h3, ↓reduceIte, ite_self, Bool.false_eq_true, cond_true, cond_false, Bool.true_and, Bool.false_and, Bool.and_true, Bool.and_false, Bool.true_or, Bool.false_or, Bool.or_true, Bool.or_false, Bool.not_true, Bool.not_false, decide_true, decide_false, b2i_t, b2i_f], rfl⟩
      · skip
        refine J.run (sn_X4_isWord F) 2 [0] (S' := (56, [(0, .ref 20), (1, .int (nI s)), (2, .ref 1004), (3, .int 1)], [.int 0], [(20, rO t e pl fd lt ct), (21, .inr (.inl (1, ty)))])) (ob := [¬ (gi ty (s + 1)) = 101]) rfl (ob_c h2 ob_n) ?_
        exact J.iret F hR (Nat.le_refl _) (Nat.le_refl _) rfl rfl (by decide +kernel) ⟨rfl, keq [20, 21] rfl rfl, by rw [wd_4]; simp only [hn, eq_true h1, h2, ↓reduceIte, ite_self, Bool.false_eq_true, cond_true, cond_false, Bool.true_and, Bool.false_and, Bool.and_true, Bool.and_false, Bool.true_or, Bool.false_or, Bool.or_true, Bool.or_false, Bool.not_true, Bool.not_false, decide_true, decide_false, b2i_t, b2i_f], rfl⟩
    · skip
      refine J.run (sn_X4_isWord F) 2 [0] (S' := (56, [(0, .ref 20), (1, .int (nI s)), (2, .ref 1004), (3, .int 0)], [.int 0], [(20, rO t e pl fd lt ct), (21, .inr (.inl (1, ty)))])) (ob := [¬ (gi ty (s + 0)) = 98]) rfl (ob_c h1 ob_n) ?_
      exact J.iret F hR (Nat.le_refl _) (Nat.le_refl _) rfl rfl (by decide +kernel) ⟨rfl, keq [20, 21] rfl rfl, by rw [wd_4]; simp only [hn, h1, ↓reduceIte, ite_self, Bool.false_eq_true, cond_true, cond_false, Bool.true_and, Bool.false_and, Bool.and_true, Bool.and_false, Bool.true_or, Bool.false_or, Bool.or_true, Bool.or_false, Bool.not_true, Bool.not_false, decide_true, decide_false, b2i_t, b2i_f], rfl⟩
  · skip
    refine J.run (sn_X4_isWord F) 10 [0, 0] (S' := (20, [(0, .ref 20), (1, .int (nI s)), (2, .ref 1004)], [.int ((nI e) - (nI s))], [(20, rO t e pl fd lt ct), (21, .inr (.inl (1, ty)))])) (ob := [¬ (nI s) < 0, ¬ 400 < (nI e)]) rfl (ob_c (n_nlt0 (by omega)) (ob_c (n_nlt (a := 400) (by omega) (by omega) he) ob_n)) ?_
    refine J.run (sn_X4_isWord F) 1 [] (S' := (21, [(0, .ref 20), (1, .int (nI s)), (2, .ref 1004)], [.ref 1004, .int ((nI e) - (nI s))], [(20, rO t e pl fd lt ct), (21, .inr (.inl (1, ty)))])) (ob := []) rfl (ob_n) ?_
    refine J.callVS F hJ lk_X4_117 im_J0_length_8abf5 se_J0_length_8abf5 (by decide +kernel) (c_slen 4 (by decide)) (by decide) rfl (by decide) [.int ((nI e) - (nI s))] rfl rfl rfl (fun r ws' hp => ?_)
    obtain ⟨rfl, -⟩ := hp
    rw [sln_4]
    show J x 4 (ad, 0, 0) (24, [(0, .ref 20), (1, .int (nI s)), (2, .ref 1004)], [.int 5, .int ((nI e) - (nI s))], [(20, rO t e pl fd lt ct), (21, .inr (.inl (1, ty)))])
    refine J.run (sn_X4_isWord F) 2 [0] (S' := (28, [(0, .ref 20), (1, .int (nI s)), (2, .ref 1004)], [.int 0], [(20, rO t e pl fd lt ct), (21, .inr (.inl (1, ty)))])) (ob := [¬ ((nI e) - (nI s)) = 5]) rfl (ob_c (by rw [nI_sub hse]; exact n_ne (b := 5) (by omega) (by omega) hn) ob_n) ?_
    exact J.iret F hR (Nat.le_refl _) (Nat.le_refl _) rfl rfl (by decide +kernel) ⟨rfl, keq [20, 21] rfl rfl, by rw [wd_4]; simp only [hn, ↓reduceIte, ite_self, Bool.false_eq_true, cond_true, cond_false, Bool.true_and, Bool.false_and, Bool.and_true, Bool.and_false, Bool.true_or, Bool.false_or, Bool.or_true, Bool.or_false, Bool.not_true, Bool.not_false, decide_true, decide_false, b2i_t, b2i_f], rfl⟩
set_option maxHeartbeats 4000000 in
set_option maxRecDepth 100000 in
theorem c_isW5 (ty : List Int32) (hty : ty.length = 400) (t : Nat) (s e : Nat) (hse : s ≤ e) (he : e ≤ 400) (pl fd lt ct : Int32) : Ctr mk_X4_isWord 5 [.ref 20, .int (nI s), .ref 1005] [(20, rO t e pl fd lt ct), (21, .inr (.inl (1, ty)))] (fun r u => r = some (.int (b2i (wdB ty s e 5))) ∧ u = [(20, rO t e pl fd lt ct), (21, .inr (.inl (1, ty)))]) := by
  refine Ctr.of rfl (Nat.le_of_ble_eq_true rfl) ?_
  intro x ad F hJ hR
  by_cases hn : e - s = 3
  · skip
    refine J.run (sn_X4_isWord F) 10 [0, 0] (S' := (20, [(0, .ref 20), (1, .int (nI s)), (2, .ref 1005)], [.int ((nI e) - (nI s))], [(20, rO t e pl fd lt ct), (21, .inr (.inl (1, ty)))])) (ob := [¬ (nI s) < 0, ¬ 400 < (nI e)]) rfl (ob_c (n_nlt0 (by omega)) (ob_c (n_nlt (a := 400) (by omega) (by omega) he) ob_n)) ?_
    refine J.run (sn_X4_isWord F) 1 [] (S' := (21, [(0, .ref 20), (1, .int (nI s)), (2, .ref 1005)], [.ref 1005, .int ((nI e) - (nI s))], [(20, rO t e pl fd lt ct), (21, .inr (.inl (1, ty)))])) (ob := []) rfl (ob_n) ?_
    refine J.callVS F hJ lk_X4_117 im_J0_length_8abf5 se_J0_length_8abf5 (by decide +kernel) (c_slen 5 (by decide)) (by decide) rfl (by decide) [.int ((nI e) - (nI s))] rfl rfl rfl (fun r ws' hp => ?_)
    obtain ⟨rfl, -⟩ := hp
    rw [sln_5]
    show J x 4 (ad, 0, 0) (24, [(0, .ref 20), (1, .int (nI s)), (2, .ref 1005)], [.int 3, .int ((nI e) - (nI s))], [(20, rO t e pl fd lt ct), (21, .inr (.inl (1, ty)))])
    refine J.run (sn_X4_isWord F) 5 [1] (S' := (33, [(0, .ref 20), (1, .int (nI s)), (2, .ref 1005), (3, .int 0)], [.ref 1005, .int 0], [(20, rO t e pl fd lt ct), (21, .inr (.inl (1, ty)))])) (ob := [((nI e) - (nI s)) = 3]) rfl (ob_c (by rw [nI_sub hse, hn]; rfl) ob_n) ?_
    refine J.callVS F hJ lk_X4_117 im_J0_length_8abf5 se_J0_length_8abf5 (by decide +kernel) (c_slen 5 (by decide)) (by decide) rfl (by decide) [.int 0] rfl rfl rfl (fun r ws' hp => ?_)
    obtain ⟨rfl, -⟩ := hp
    rw [sln_5]
    show J x 4 (ad, 0, 0) (36, [(0, .ref 20), (1, .int (nI s)), (2, .ref 1005), (3, .int 0)], [.int 3, .int 0], [(20, rO t e pl fd lt ct), (21, .inr (.inl (1, ty)))])
    refine J.run (sn_X4_isWord F) 9 [0, (s + 0)] (S' := (49, [(0, .ref 20), (1, .int (nI s)), (2, .ref 1005), (3, .int 0)], [.int 0, .ref 1005, .int (gi ty (s + 0))], [(20, rO t e pl fd lt ct), (21, .inr (.inl (1, ty)))])) (ob := [¬ 3 ≤ (0 : Int32), ix ((nI s) + 0) (s + 0) ty.length]) rfl (ob_c (by decide) (ob_c (ix_len hty (ix_eq (nI_k s 0) (ix_nI (by omega) (by decide)))) ob_n)) ?_
    refine J.callVS F hJ lk_X4_121 im_J0_charAt_5068e se_J0_charAt_5068e (by decide +kernel) (c_chAt 5 (by decide) 0 (by decide) (by decide) chn_5_0) (by decide) rfl (by decide) [.int (gi ty (s + 0))] rfl rfl rfl (fun r ws' hp => ?_)
    obtain ⟨rfl, -⟩ := hp
    rw [chV_5_0]
    show J x 4 (ad, 0, 0) (52, [(0, .ref 20), (1, .int (nI s)), (2, .ref 1005), (3, .int 0)], [.int 97, .int (gi ty (s + 0))], [(20, rO t e pl fd lt ct), (21, .inr (.inl (1, ty)))])
    by_cases h1 : (gi ty (s + 0)) = 97
    · skip
      refine J.run (sn_X4_isWord F) 5 [1] (S' := (33, [(0, .ref 20), (1, .int (nI s)), (2, .ref 1005), (3, .int 1)], [.ref 1005, .int 1], [(20, rO t e pl fd lt ct), (21, .inr (.inl (1, ty)))])) (ob := [(gi ty (s + 0)) = 97]) rfl (ob_c h1 ob_n) ?_
      refine J.callVS F hJ lk_X4_117 im_J0_length_8abf5 se_J0_length_8abf5 (by decide +kernel) (c_slen 5 (by decide)) (by decide) rfl (by decide) [.int 1] rfl rfl rfl (fun r ws' hp => ?_)
      obtain ⟨rfl, -⟩ := hp
      rw [sln_5]
      show J x 4 (ad, 0, 0) (36, [(0, .ref 20), (1, .int (nI s)), (2, .ref 1005), (3, .int 1)], [.int 3, .int 1], [(20, rO t e pl fd lt ct), (21, .inr (.inl (1, ty)))])
      refine J.run (sn_X4_isWord F) 9 [0, (s + 1)] (S' := (49, [(0, .ref 20), (1, .int (nI s)), (2, .ref 1005), (3, .int 1)], [.int 1, .ref 1005, .int (gi ty (s + 1))], [(20, rO t e pl fd lt ct), (21, .inr (.inl (1, ty)))])) (ob := [¬ 3 ≤ (1 : Int32), ix ((nI s) + 1) (s + 1) ty.length]) rfl (ob_c (by decide) (ob_c (ix_len hty (ix_eq (nI_k s 1) (ix_nI (by omega) (by decide)))) ob_n)) ?_
      refine J.callVS F hJ lk_X4_121 im_J0_charAt_5068e se_J0_charAt_5068e (by decide +kernel) (c_chAt 5 (by decide) 1 (by decide) (by decide) chn_5_1) (by decide) rfl (by decide) [.int (gi ty (s + 1))] rfl rfl rfl (fun r ws' hp => ?_)
      obtain ⟨rfl, -⟩ := hp
      rw [chV_5_1]
      show J x 4 (ad, 0, 0) (52, [(0, .ref 20), (1, .int (nI s)), (2, .ref 1005), (3, .int 1)], [.int 108, .int (gi ty (s + 1))], [(20, rO t e pl fd lt ct), (21, .inr (.inl (1, ty)))])
      by_cases h2 : (gi ty (s + 1)) = 108
      · skip
        refine J.run (sn_X4_isWord F) 5 [1] (S' := (33, [(0, .ref 20), (1, .int (nI s)), (2, .ref 1005), (3, .int 2)], [.ref 1005, .int 2], [(20, rO t e pl fd lt ct), (21, .inr (.inl (1, ty)))])) (ob := [(gi ty (s + 1)) = 108]) rfl (ob_c h2 ob_n) ?_
        refine J.callVS F hJ lk_X4_117 im_J0_length_8abf5 se_J0_length_8abf5 (by decide +kernel) (c_slen 5 (by decide)) (by decide) rfl (by decide) [.int 2] rfl rfl rfl (fun r ws' hp => ?_)
        obtain ⟨rfl, -⟩ := hp
        rw [sln_5]
        show J x 4 (ad, 0, 0) (36, [(0, .ref 20), (1, .int (nI s)), (2, .ref 1005), (3, .int 2)], [.int 3, .int 2], [(20, rO t e pl fd lt ct), (21, .inr (.inl (1, ty)))])
        refine J.run (sn_X4_isWord F) 9 [0, (s + 2)] (S' := (49, [(0, .ref 20), (1, .int (nI s)), (2, .ref 1005), (3, .int 2)], [.int 2, .ref 1005, .int (gi ty (s + 2))], [(20, rO t e pl fd lt ct), (21, .inr (.inl (1, ty)))])) (ob := [¬ 3 ≤ (2 : Int32), ix ((nI s) + 2) (s + 2) ty.length]) rfl (ob_c (by decide) (ob_c (ix_len hty (ix_eq (nI_k s 2) (ix_nI (by omega) (by decide)))) ob_n)) ?_
        refine J.callVS F hJ lk_X4_121 im_J0_charAt_5068e se_J0_charAt_5068e (by decide +kernel) (c_chAt 5 (by decide) 2 (by decide) (by decide) chn_5_2) (by decide) rfl (by decide) [.int (gi ty (s + 2))] rfl rfl rfl (fun r ws' hp => ?_)
        obtain ⟨rfl, -⟩ := hp
        rw [chV_5_2]
        show J x 4 (ad, 0, 0) (52, [(0, .ref 20), (1, .int (nI s)), (2, .ref 1005), (3, .int 2)], [.int 108, .int (gi ty (s + 2))], [(20, rO t e pl fd lt ct), (21, .inr (.inl (1, ty)))])
        by_cases h3 : (gi ty (s + 2)) = 108
        · skip
          refine J.run (sn_X4_isWord F) 5 [1] (S' := (33, [(0, .ref 20), (1, .int (nI s)), (2, .ref 1005), (3, .int 3)], [.ref 1005, .int 3], [(20, rO t e pl fd lt ct), (21, .inr (.inl (1, ty)))])) (ob := [(gi ty (s + 2)) = 108]) rfl (ob_c h3 ob_n) ?_
          refine J.callVS F hJ lk_X4_117 im_J0_length_8abf5 se_J0_length_8abf5 (by decide +kernel) (c_slen 5 (by decide)) (by decide) rfl (by decide) [.int 3] rfl rfl rfl (fun r ws' hp => ?_)
          obtain ⟨rfl, -⟩ := hp
          rw [sln_5]
          show J x 4 (ad, 0, 0) (36, [(0, .ref 20), (1, .int (nI s)), (2, .ref 1005), (3, .int 3)], [.int 3, .int 3], [(20, rO t e pl fd lt ct), (21, .inr (.inl (1, ty)))])
          refine J.run (sn_X4_isWord F) 2 [1] (S' := (64, [(0, .ref 20), (1, .int (nI s)), (2, .ref 1005), (3, .int 3)], [.int 1], [(20, rO t e pl fd lt ct), (21, .inr (.inl (1, ty)))])) (ob := [3 ≤ (3 : Int32)]) rfl (ob_c (by decide) ob_n) ?_
          exact J.iret F hR (Nat.le_refl _) (Nat.le_refl _) rfl rfl (by decide +kernel) ⟨rfl, keq [20, 21] rfl rfl, by rw [wd_5]; simp only [hn, eq_true h1, eq_true h2, eq_true h3, ↓reduceIte, ite_self, Bool.false_eq_true, cond_true, cond_false, Bool.true_and, Bool.false_and, Bool.and_true, Bool.and_false, Bool.true_or, Bool.false_or, Bool.or_true, Bool.or_false, Bool.not_true, Bool.not_false, decide_true, decide_false, b2i_t, b2i_f], rfl⟩
        · skip
          refine J.run (sn_X4_isWord F) 2 [0] (S' := (56, [(0, .ref 20), (1, .int (nI s)), (2, .ref 1005), (3, .int 2)], [.int 0], [(20, rO t e pl fd lt ct), (21, .inr (.inl (1, ty)))])) (ob := [¬ (gi ty (s + 2)) = 108]) rfl (ob_c h3 ob_n) ?_
          exact J.iret F hR (Nat.le_refl _) (Nat.le_refl _) rfl rfl (by decide +kernel) ⟨rfl, keq [20, 21] rfl rfl, by rw [wd_5]; simp only [hn, eq_true h1, eq_true h2, h3, ↓reduceIte, ite_self, Bool.false_eq_true, cond_true, cond_false, Bool.true_and, Bool.false_and, Bool.and_true, Bool.and_false, Bool.true_or, Bool.false_or, Bool.or_true, Bool.or_false, Bool.not_true, Bool.not_false, decide_true, decide_false, b2i_t, b2i_f], rfl⟩
      · skip
        refine J.run (sn_X4_isWord F) 2 [0] (S' := (56, [(0, .ref 20), (1, .int (nI s)), (2, .ref 1005), (3, .int 1)], [.int 0], [(20, rO t e pl fd lt ct), (21, .inr (.inl (1, ty)))])) (ob := [¬ (gi ty (s + 1)) = 108]) rfl (ob_c h2 ob_n) ?_
        exact J.iret F hR (Nat.le_refl _) (Nat.le_refl _) rfl rfl (by decide +kernel) ⟨rfl, keq [20, 21] rfl rfl, by rw [wd_5]; simp only [hn, eq_true h1, h2, ↓reduceIte, ite_self, Bool.false_eq_true, cond_true, cond_false, Bool.true_and, Bool.false_and, Bool.and_true, Bool.and_false, Bool.true_or, Bool.false_or, Bool.or_true, Bool.or_false, Bool.not_true, Bool.not_false, decide_true, decide_false, b2i_t, b2i_f], rfl⟩
    · skip
      refine J.run (sn_X4_isWord F) 2 [0] (S' := (56, [(0, .ref 20), (1, .int (nI s)), (2, .ref 1005), (3, .int 0)], [.int 0], [(20, rO t e pl fd lt ct), (21, .inr (.inl (1, ty)))])) (ob := [¬ (gi ty (s + 0)) = 97]) rfl (ob_c h1 ob_n) ?_
      exact J.iret F hR (Nat.le_refl _) (Nat.le_refl _) rfl rfl (by decide +kernel) ⟨rfl, keq [20, 21] rfl rfl, by rw [wd_5]; simp only [hn, h1, ↓reduceIte, ite_self, Bool.false_eq_true, cond_true, cond_false, Bool.true_and, Bool.false_and, Bool.and_true, Bool.and_false, Bool.true_or, Bool.false_or, Bool.or_true, Bool.or_false, Bool.not_true, Bool.not_false, decide_true, decide_false, b2i_t, b2i_f], rfl⟩
  · skip
    refine J.run (sn_X4_isWord F) 10 [0, 0] (S' := (20, [(0, .ref 20), (1, .int (nI s)), (2, .ref 1005)], [.int ((nI e) - (nI s))], [(20, rO t e pl fd lt ct), (21, .inr (.inl (1, ty)))])) (ob := [¬ (nI s) < 0, ¬ 400 < (nI e)]) rfl (ob_c (n_nlt0 (by omega)) (ob_c (n_nlt (a := 400) (by omega) (by omega) he) ob_n)) ?_
    refine J.run (sn_X4_isWord F) 1 [] (S' := (21, [(0, .ref 20), (1, .int (nI s)), (2, .ref 1005)], [.ref 1005, .int ((nI e) - (nI s))], [(20, rO t e pl fd lt ct), (21, .inr (.inl (1, ty)))])) (ob := []) rfl (ob_n) ?_
    refine J.callVS F hJ lk_X4_117 im_J0_length_8abf5 se_J0_length_8abf5 (by decide +kernel) (c_slen 5 (by decide)) (by decide) rfl (by decide) [.int ((nI e) - (nI s))] rfl rfl rfl (fun r ws' hp => ?_)
    obtain ⟨rfl, -⟩ := hp
    rw [sln_5]
    show J x 4 (ad, 0, 0) (24, [(0, .ref 20), (1, .int (nI s)), (2, .ref 1005)], [.int 3, .int ((nI e) - (nI s))], [(20, rO t e pl fd lt ct), (21, .inr (.inl (1, ty)))])
    refine J.run (sn_X4_isWord F) 2 [0] (S' := (28, [(0, .ref 20), (1, .int (nI s)), (2, .ref 1005)], [.int 0], [(20, rO t e pl fd lt ct), (21, .inr (.inl (1, ty)))])) (ob := [¬ ((nI e) - (nI s)) = 3]) rfl (ob_c (by rw [nI_sub hse]; exact n_ne (b := 3) (by omega) (by omega) hn) ob_n) ?_
    exact J.iret F hR (Nat.le_refl _) (Nat.le_refl _) rfl rfl (by decide +kernel) ⟨rfl, keq [20, 21] rfl rfl, by rw [wd_5]; simp only [hn, ↓reduceIte, ite_self, Bool.false_eq_true, cond_true, cond_false, Bool.true_and, Bool.false_and, Bool.and_true, Bool.and_false, Bool.true_or, Bool.false_or, Bool.or_true, Bool.or_false, Bool.not_true, Bool.not_false, decide_true, decide_false, b2i_t, b2i_f], rfl⟩
set_option maxHeartbeats 4000000 in
set_option maxRecDepth 100000 in
theorem c_rkind (ty : List Int32) (hty : ty.length = 400) (t : Nat) (ht : t ≤ 400) (a : Nat) (ha : a ≤ t) (pl fd lt ct : Int32) : Ctr mk_X4_readKind 7 [.ref 20] [(20, rO t a pl fd lt ct), (21, .inr (.inl (1, ty)))] (fun r u => r = some (.int (rkv ty t a)) ∧ u = [(20, rO t ((rkS ty t (a, pl, fd)).1) ((rkS ty t (a, pl, fd)).2.1) ((rkS ty t (a, pl, fd)).2.2) lt ct), (21, .inr (.inl (1, ty)))]) := by
  refine Ctr.of rfl (Nat.le_of_ble_eq_true rfl) ?_
  intro x ad F hJ hR
  refine J.run (sn_X4_readKind F) 1 [] (S' := (1, [(0, .ref 20)], [.ref 20], [(20, rO t a pl fd lt ct), (21, .inr (.inl (1, ty)))])) (ob := []) rfl (ob_n) ?_
  have hsk1 : (skq ty t 32 32 a) ≤ t := skq_le (by omega)
  have hsg1 := skq_ge ty t 32 32 a
  refine J.callV F hJ lk_X4_45 im_X4_skipBlanks se_X4_skipBlanks (by decide +kernel) (c_skipBlanks ty hty t ht a (by omega) pl fd lt ct) (fun k => k) (by omega) [] rfl rfl rfl rfl rfl (by decide) rfl (show List.Nodup [20, 21] by decide) (fun r ws' hk hp => ?_)
  obtain ⟨rfl, rfl⟩ := hp
  show J x 2 (ad, 0, 0) (4, [(0, .ref 20)], [], [(20, rO t (skq ty t 32 32 a) pl fd lt ct), (21, .inr (.inl (1, ty)))])
  refine J.run (sn_X4_readKind F) 4 [] (S' := (10, [(0, .ref 20), (1, .int (nI (skq ty t 32 32 a)))], [.ref 20], [(20, rO t (skq ty t 32 32 a) pl fd lt ct), (21, .inr (.inl (1, ty)))])) (ob := []) rfl (ob_n) ?_
  have hsk2 : (skq ty t 97 122 (skq ty t 32 32 a)) ≤ t := skq_le (by omega)
  have hsg2 := skq_ge ty t 97 122 (skq ty t 32 32 a)
  refine J.callV F hJ lk_X4_51 im_X4_skipWord se_X4_skipWord (by decide +kernel) (c_skipWord ty hty t ht (skq ty t 32 32 a) (by omega) pl fd lt ct) (fun k => k) (by omega) [] rfl rfl rfl rfl rfl (by decide) rfl (show List.Nodup [20, 21] by decide) (fun r ws' hk hp => ?_)
  obtain ⟨rfl, rfl⟩ := hp
  show J x 2 (ad, 0, 0) (13, [(0, .ref 20), (1, .int (nI (skq ty t 32 32 a)))], [], [(20, rO t (skq ty t 97 122 (skq ty t 32 32 a)) pl fd lt ct), (21, .inr (.inl (1, ty)))])
  refine J.run (sn_X4_readKind F) 2 [] (S' := (15, [(0, .ref 20), (1, .int (nI (skq ty t 32 32 a)))], [.int (nI (skq ty t 32 32 a)), .ref 20], [(20, rO t (skq ty t 97 122 (skq ty t 32 32 a)) pl fd lt ct), (21, .inr (.inl (1, ty)))])) (ob := []) rfl (ob_n) ?_
  refine J.ldcS F hJ (idx := 107) 3 (by decide) rfl rfl (by decide +kernel) ?_
  show J x 2 (ad, 0, 0) (17, [(0, .ref 20), (1, .int (nI (skq ty t 32 32 a)))], [.ref 1003, .int (nI (skq ty t 32 32 a)), .ref 20], [(20, rO t (skq ty t 97 122 (skq ty t 32 32 a)) pl fd lt ct), (21, .inr (.inl (1, ty)))])
  refine J.callV F hJ lk_X4_56 im_X4_isWord se_X4_isWord (by decide +kernel) (c_isW3 ty hty t (skq ty t 32 32 a) (skq ty t 97 122 (skq ty t 32 32 a)) (by omega) (by omega) pl fd lt ct) (fun k => k) (by omega) [] rfl rfl rfl rfl rfl (by decide) rfl (show List.Nodup [20, 21] by decide) (fun r ws' hk hp => ?_)
  obtain ⟨rfl, rfl⟩ := hp
  show J x 2 (ad, 0, 0) (20, [(0, .ref 20), (1, .int (nI (skq ty t 32 32 a)))], [.int (b2i (wdB ty (skq ty t 32 32 a) (skq ty t 97 122 (skq ty t 32 32 a)) 3))], [(20, rO t (skq ty t 97 122 (skq ty t 32 32 a)) pl fd lt ct), (21, .inr (.inl (1, ty)))])
  cases hb3 : wdB ty (skq ty t 32 32 a) (skq ty t 97 122 (skq ty t 32 32 a)) 3
  · skip
    refine J.run (sn_X4_readKind F) 3 [1] (S' := (27, [(0, .ref 20), (1, .int (nI (skq ty t 32 32 a)))], [.int (nI (skq ty t 32 32 a)), .ref 20], [(20, rO t (skq ty t 97 122 (skq ty t 32 32 a)) pl fd lt ct), (21, .inr (.inl (1, ty)))])) (ob := [(0 : Int32) = 0]) rfl (ob_c (by decide) ob_n) ?_
    refine J.ldcS F hJ (idx := 109) 4 (by decide) rfl rfl (by decide +kernel) ?_
    show J x 2 (ad, 0, 0) (29, [(0, .ref 20), (1, .int (nI (skq ty t 32 32 a)))], [.ref 1004, .int (nI (skq ty t 32 32 a)), .ref 20], [(20, rO t (skq ty t 97 122 (skq ty t 32 32 a)) pl fd lt ct), (21, .inr (.inl (1, ty)))])
    refine J.callV F hJ lk_X4_56 im_X4_isWord se_X4_isWord (by decide +kernel) (c_isW4 ty hty t (skq ty t 32 32 a) (skq ty t 97 122 (skq ty t 32 32 a)) (by omega) (by omega) pl fd lt ct) (fun k => k) (by omega) [] rfl rfl rfl rfl rfl (by decide) rfl (show List.Nodup [20, 21] by decide) (fun r ws' hk hp => ?_)
    obtain ⟨rfl, rfl⟩ := hp
    show J x 2 (ad, 0, 0) (32, [(0, .ref 20), (1, .int (nI (skq ty t 32 32 a)))], [.int (b2i (wdB ty (skq ty t 32 32 a) (skq ty t 97 122 (skq ty t 32 32 a)) 4))], [(20, rO t (skq ty t 97 122 (skq ty t 32 32 a)) pl fd lt ct), (21, .inr (.inl (1, ty)))])
    cases hb4 : wdB ty (skq ty t 32 32 a) (skq ty t 97 122 (skq ty t 32 32 a)) 4
    · skip
      refine J.run (sn_X4_readKind F) 3 [1] (S' := (39, [(0, .ref 20), (1, .int (nI (skq ty t 32 32 a)))], [.int (nI (skq ty t 32 32 a)), .ref 20], [(20, rO t (skq ty t 97 122 (skq ty t 32 32 a)) pl fd lt ct), (21, .inr (.inl (1, ty)))])) (ob := [(0 : Int32) = 0]) rfl (ob_c (by decide) ob_n) ?_
      refine J.ldcS F hJ (idx := 111) 5 (by decide) rfl rfl (by decide +kernel) ?_
      show J x 2 (ad, 0, 0) (41, [(0, .ref 20), (1, .int (nI (skq ty t 32 32 a)))], [.ref 1005, .int (nI (skq ty t 32 32 a)), .ref 20], [(20, rO t (skq ty t 97 122 (skq ty t 32 32 a)) pl fd lt ct), (21, .inr (.inl (1, ty)))])
      refine J.callV F hJ lk_X4_56 im_X4_isWord se_X4_isWord (by decide +kernel) (c_isW5 ty hty t (skq ty t 32 32 a) (skq ty t 97 122 (skq ty t 32 32 a)) (by omega) (by omega) pl fd lt ct) (fun k => k) (by omega) [] rfl rfl rfl rfl rfl (by decide) rfl (show List.Nodup [20, 21] by decide) (fun r ws' hk hp => ?_)
      obtain ⟨rfl, rfl⟩ := hp
      show J x 2 (ad, 0, 0) (44, [(0, .ref 20), (1, .int (nI (skq ty t 32 32 a)))], [.int (b2i (wdB ty (skq ty t 32 32 a) (skq ty t 97 122 (skq ty t 32 32 a)) 5))], [(20, rO t (skq ty t 97 122 (skq ty t 32 32 a)) pl fd lt ct), (21, .inr (.inl (1, ty)))])
      cases hb5 : wdB ty (skq ty t 32 32 a) (skq ty t 97 122 (skq ty t 32 32 a)) 5
      · skip
        refine J.run (sn_X4_readKind F) 4 [1] (S' := (52, [(0, .ref 20), (1, .int (nI (skq ty t 32 32 a)))], [.int (nI (skq ty t 32 32 a)), .int 1, .ref 20], [(20, rO t (skq ty t 97 122 (skq ty t 32 32 a)) pl fd lt ct), (21, .inr (.inl (1, ty)))])) (ob := [(0 : Int32) = 0]) rfl (ob_c (by decide) ob_n) ?_
        refine J.callV F hJ lk_X4_74 im_X4_blame se_X4_blame (by decide +kernel) (c_blame t (skq ty t 97 122 (skq ty t 32 32 a)) pl fd lt ct 1 (nI (skq ty t 32 32 a)) (by decide)) (fun k => k) (by omega) [] rfl rfl rfl rfl rfl (by decide) rfl (show List.Nodup [20] by decide) (fun r ws' hk hp => ?_)
        obtain ⟨rfl, rfl⟩ := hp
        show J x 2 (ad, 0, 0) (55, [(0, .ref 20), (1, .int (nI (skq ty t 32 32 a)))], [], [(20, rO t (skq ty t 97 122 (skq ty t 32 32 a)) (bP fd 1 pl (nI (skq ty t 32 32 a))) (bF fd 1) lt ct), (21, .inr (.inl (1, ty)))])
        refine J.run (sn_X4_readKind F) 1 [] (S' := (56, [(0, .ref 20), (1, .int (nI (skq ty t 32 32 a)))], [.int 0], [(20, rO t (skq ty t 97 122 (skq ty t 32 32 a)) (bP fd 1 pl (nI (skq ty t 32 32 a))) (bF fd 1) lt ct), (21, .inr (.inl (1, ty)))])) (ob := []) rfl (ob_n) ?_
        exact J.iret F hR (Nat.le_refl _) (Nat.le_refl _) rfl rfl (by decide +kernel) ⟨rfl, keq [20, 21] rfl rfl, by rw [show rkv ty t a = 0 from by unfold rkv kdV; rw [hb3, hb4, hb5]; rfl], by rw [show rkS ty t (a, pl, fd) = blS 1 (skq ty t 32 32 a) ((skq ty t 97 122 (skq ty t 32 32 a)), pl, fd) from by show (bif kdB ty (skq ty t 32 32 a) (skq ty t 97 122 (skq ty t 32 32 a)) then _ else _) = _; unfold kdB; rw [hb3, hb4, hb5]; rfl] <;> first | rfl | simp only [rO, blS]⟩
      · skip
        refine J.run (sn_X4_readKind F) 2 [0] (S' := (48, [(0, .ref 20), (1, .int (nI (skq ty t 32 32 a)))], [.int 2], [(20, rO t (skq ty t 97 122 (skq ty t 32 32 a)) pl fd lt ct), (21, .inr (.inl (1, ty)))])) (ob := [¬ (1 : Int32) = 0]) rfl (ob_c (by decide) ob_n) ?_
        exact J.iret F hR (Nat.le_refl _) (Nat.le_refl _) rfl rfl (by decide +kernel) ⟨rfl, keq [20, 21] rfl rfl, by rw [show rkv ty t a = 2 from by unfold rkv kdV; rw [hb3, hb4, hb5]; rfl], by rw [show rkS ty t (a, pl, fd) = ((skq ty t 97 122 (skq ty t 32 32 a)), pl, fd) from by show (bif kdB ty (skq ty t 32 32 a) (skq ty t 97 122 (skq ty t 32 32 a)) then _ else _) = _; unfold kdB; rw [hb3, hb4, hb5]; rfl] <;> first | rfl | simp only [rO, blS]⟩
    · skip
      refine J.run (sn_X4_readKind F) 2 [0] (S' := (36, [(0, .ref 20), (1, .int (nI (skq ty t 32 32 a)))], [.int 1], [(20, rO t (skq ty t 97 122 (skq ty t 32 32 a)) pl fd lt ct), (21, .inr (.inl (1, ty)))])) (ob := [¬ (1 : Int32) = 0]) rfl (ob_c (by decide) ob_n) ?_
      exact J.iret F hR (Nat.le_refl _) (Nat.le_refl _) rfl rfl (by decide +kernel) ⟨rfl, keq [20, 21] rfl rfl, by rw [show rkv ty t a = 1 from by unfold rkv kdV; rw [hb3, hb4]; rfl], by rw [show rkS ty t (a, pl, fd) = ((skq ty t 97 122 (skq ty t 32 32 a)), pl, fd) from by show (bif kdB ty (skq ty t 32 32 a) (skq ty t 97 122 (skq ty t 32 32 a)) then _ else _) = _; unfold kdB; rw [hb3, hb4]; rfl] <;> first | rfl | simp only [rO, blS]⟩
  · skip
    refine J.run (sn_X4_readKind F) 2 [0] (S' := (24, [(0, .ref 20), (1, .int (nI (skq ty t 32 32 a)))], [.int 0], [(20, rO t (skq ty t 97 122 (skq ty t 32 32 a)) pl fd lt ct), (21, .inr (.inl (1, ty)))])) (ob := [¬ (1 : Int32) = 0]) rfl (ob_c (by decide) ob_n) ?_
    exact J.iret F hR (Nat.le_refl _) (Nat.le_refl _) rfl rfl (by decide +kernel) ⟨rfl, keq [20, 21] rfl rfl, by rw [show rkv ty t a = 0 from by unfold rkv kdV; rw [hb3]; rfl], by rw [show rkS ty t (a, pl, fd) = ((skq ty t 97 122 (skq ty t 32 32 a)), pl, fd) from by show (bif kdB ty (skq ty t 32 32 a) (skq ty t 97 122 (skq ty t 32 32 a)) then _ else _) = _; unfold kdB; rw [hb3]; rfl] <;> first | rfl | simp only [rO, blS]⟩
set_option maxHeartbeats 4000000 in
set_option maxRecDepth 100000 in
theorem c_rcough0 (ty : List Int32) (hty : ty.length = 400) (t : Nat) (ht : t ≤ 400) (a : Nat) (ha : a ≤ t) (pl fd lt : Int32) (h : Nat → Int32) (s : Nat) : Ctr mk_X4_readCough 4 [.ref 20, .int (nI s)] [(20, rO t a pl fd lt 0), (21, .inr (.inl (1, ty))), (25, hD h)] (fun r u => r = none ∧ u = [(20, rO t ((reS ty t (rnS ty t 0 100 (a, pl, fd))).1) ((reS ty t (rnS ty t 0 100 (a, pl, fd))).2.1) ((reS ty t (rnS ty t 0 100 (a, pl, fd))).2.2) lt 1), (21, .inr (.inl (1, ty))), (25, hD (hcg h (rnv ty t a)))]) := by
  refine Ctr.of rfl (Nat.le_of_ble_eq_true rfl) ?_
  intro x ad F hJ hR
  refine J.run (sn_X4_readCough F) 10 [1] (S' := (24, [(0, .ref 20), (1, .int (nI s))], [.int 0, .ref 20, .ref 25], [(20, .inl (4, [.ref 25, .int (nI t), .int pl, .ref 21, .int (nI a), .int fd, .int lt, .int 1])), (21, .inr (.inl (1, ty))), (25, hD h)])) (ob := [(0 : Int32) = 0, (1 : Int32) = 0 ∨ (1 : Int32) = 1]) rfl (ob_c (by decide) (ob_c (by decide) ob_n)) ?_
  refine J.run (sn_X4_readCough F) 1 [] (S' := (26, [(0, .ref 20), (1, .int (nI s))], [.int 100, .int 0, .ref 20, .ref 25], [(20, .inl (4, [.ref 25, .int (nI t), .int pl, .ref 21, .int (nI a), .int fd, .int lt, .int 1])), (21, .inr (.inl (1, ty))), (25, hD h)])) (ob := []) rfl (ob_n) ?_
  have hqq1 : (rnS ty t 0 100 (a, pl, fd)).1 ≤ t := rnS_le (by omega)
  refine J.callV F hJ lk_X4_81 im_X4_readNumber se_X4_readNumber (by decide +kernel) (c_rnum ty hty t ht a (by omega) pl fd lt 1 0 100) (fun k => k) (by omega) [.ref 25] rfl rfl rfl rfl rfl (by decide) rfl (show List.Nodup [20, 21] by decide) (fun r ws' hk hp => ?_)
  obtain ⟨rfl, rfl⟩ := hp
  show J x 2 (ad, 0, 0) (29, [(0, .ref 20), (1, .int (nI s))], [.int (rnv ty t a), .ref 25], [(20, rO t ((rnS ty t 0 100 (a, pl, fd)).1) ((rnS ty t 0 100 (a, pl, fd)).2.1) ((rnS ty t 0 100 (a, pl, fd)).2.2) lt 1), (21, .inr (.inl (1, ty))), (25, hD h)])
  refine J.run (sn_X4_readCough F) 2 [] (S' := (33, [(0, .ref 20), (1, .int (nI s))], [.ref 20], [(20, rO t ((rnS ty t 0 100 (a, pl, fd)).1) ((rnS ty t 0 100 (a, pl, fd)).2.1) ((rnS ty t 0 100 (a, pl, fd)).2.2) lt 1), (21, .inr (.inl (1, ty))), (25, .inl (1, [.ref 26, .ref 27, .ref 28, .int (h 0), .int (h 14), .int (h 15), .int (h 16), .int (rnv ty t a)]))])) (ob := []) rfl (ob_n) ?_
  have hqq2 : (reS ty t (rnS ty t 0 100 (a, pl, fd))).1 ≤ t := reS_le (by omega)
  refine J.callV F hJ lk_X4_85 im_X4_readEnd se_X4_readEnd (by decide +kernel) (c_rend ty hty t ht ((rnS ty t 0 100 (a, pl, fd)).1) (by omega) ((rnS ty t 0 100 (a, pl, fd)).2.1) ((rnS ty t 0 100 (a, pl, fd)).2.2) lt 1) (fun k => k) (by omega) [] rfl rfl rfl rfl rfl (by decide) rfl (show List.Nodup [20, 21] by decide) (fun r ws' hk hp => ?_)
  obtain ⟨rfl, rfl⟩ := hp
  show J x 2 (ad, 0, 0) (36, [(0, .ref 20), (1, .int (nI s))], [], [(20, rO t ((reS ty t (rnS ty t 0 100 (a, pl, fd))).1) ((reS ty t (rnS ty t 0 100 (a, pl, fd))).2.1) ((reS ty t (rnS ty t 0 100 (a, pl, fd))).2.2) lt 1), (21, .inr (.inl (1, ty))), (25, .inl (1, [.ref 26, .ref 27, .ref 28, .int (h 0), .int (h 14), .int (h 15), .int (h 16), .int (rnv ty t a)]))])
  exact J.vret F hR (Nat.le_refl _) (Nat.le_refl _) rfl (by decide +kernel) ⟨rfl, keq [20, 21, 25] rfl rfl, rfl, rfl⟩
set_option maxHeartbeats 4000000 in
set_option maxRecDepth 100000 in
theorem c_rcough1 (ty : List Int32) (hty : ty.length = 400) (t : Nat) (ht : t ≤ 400) (a : Nat) (ha : a ≤ t) (pl fd lt : Int32) (h : Nat → Int32) (s : Nat) : Ctr mk_X4_readCough 4 [.ref 20, .int (nI s)] [(20, rO t a pl fd lt 1), (21, .inr (.inl (1, ty))), (25, hD h)] (fun r u => r = none ∧ u = [(20, rO t ((reS ty t (rnS ty t 0 100 (blS 3 s (a, pl, fd)))).1) ((reS ty t (rnS ty t 0 100 (blS 3 s (a, pl, fd)))).2.1) ((reS ty t (rnS ty t 0 100 (blS 3 s (a, pl, fd)))).2.2) lt 1), (21, .inr (.inl (1, ty))), (25, hD (hcg h (rnv ty t a)))]) := by
  refine Ctr.of rfl (Nat.le_of_ble_eq_true rfl) ?_
  intro x ad F hJ hR
  refine J.run (sn_X4_readCough F) 6 [0] (S' := (10, [(0, .ref 20), (1, .int (nI s))], [.int (nI s), .int 3, .ref 20], [(20, rO t a pl fd lt 1), (21, .inr (.inl (1, ty))), (25, hD h)])) (ob := [¬ (1 : Int32) = 0]) rfl (ob_c (by decide) ob_n) ?_
  have hqq1 : (blS 3 s (a, pl, fd)).1 ≤ t := (by show a ≤ t; omega)
  refine J.callV F hJ lk_X4_74 im_X4_blame se_X4_blame (by decide +kernel) (c_blame t a pl fd lt 1 3 (nI s) (by decide)) (fun k => k) (by omega) [] rfl rfl rfl rfl rfl (by decide) rfl (show List.Nodup [20] by decide) (fun r ws' hk hp => ?_)
  obtain ⟨rfl, rfl⟩ := hp
  show J x 2 (ad, 0, 0) (13, [(0, .ref 20), (1, .int (nI s))], [], [(20, rO t ((blS 3 s (a, pl, fd)).1) ((blS 3 s (a, pl, fd)).2.1) ((blS 3 s (a, pl, fd)).2.2) lt 1), (21, .inr (.inl (1, ty))), (25, hD h)])
  refine J.run (sn_X4_readCough F) 8 [] (S' := (26, [(0, .ref 20), (1, .int (nI s))], [.int 100, .int 0, .ref 20, .ref 25], [(20, .inl (4, [.ref 25, .int (nI t), .int ((blS 3 s (a, pl, fd)).2.1), .ref 21, .int (nI (blS 3 s (a, pl, fd)).1), .int ((blS 3 s (a, pl, fd)).2.2), .int lt, .int 1])), (21, .inr (.inl (1, ty))), (25, hD h)])) (ob := [(1 : Int32) = 0 ∨ (1 : Int32) = 1]) rfl (ob_c (by decide) ob_n) ?_
  have hqq2 : (rnS ty t 0 100 (blS 3 s (a, pl, fd))).1 ≤ t := rnS_le (by omega)
  refine J.callV F hJ lk_X4_81 im_X4_readNumber se_X4_readNumber (by decide +kernel) (c_rnum ty hty t ht ((blS 3 s (a, pl, fd)).1) (by omega) ((blS 3 s (a, pl, fd)).2.1) ((blS 3 s (a, pl, fd)).2.2) lt 1 0 100) (fun k => k) (by omega) [.ref 25] rfl rfl rfl rfl rfl (by decide) rfl (show List.Nodup [20, 21] by decide) (fun r ws' hk hp => ?_)
  obtain ⟨rfl, rfl⟩ := hp
  show J x 2 (ad, 0, 0) (29, [(0, .ref 20), (1, .int (nI s))], [.int (rnv ty t ((blS 3 s (a, pl, fd)).1)), .ref 25], [(20, rO t ((rnS ty t 0 100 (blS 3 s (a, pl, fd))).1) ((rnS ty t 0 100 (blS 3 s (a, pl, fd))).2.1) ((rnS ty t 0 100 (blS 3 s (a, pl, fd))).2.2) lt 1), (21, .inr (.inl (1, ty))), (25, hD h)])
  refine J.run (sn_X4_readCough F) 2 [] (S' := (33, [(0, .ref 20), (1, .int (nI s))], [.ref 20], [(20, rO t ((rnS ty t 0 100 (blS 3 s (a, pl, fd))).1) ((rnS ty t 0 100 (blS 3 s (a, pl, fd))).2.1) ((rnS ty t 0 100 (blS 3 s (a, pl, fd))).2.2) lt 1), (21, .inr (.inl (1, ty))), (25, .inl (1, [.ref 26, .ref 27, .ref 28, .int (h 0), .int (h 14), .int (h 15), .int (h 16), .int (rnv ty t ((blS 3 s (a, pl, fd)).1))]))])) (ob := []) rfl (ob_n) ?_
  have hqq3 : (reS ty t (rnS ty t 0 100 (blS 3 s (a, pl, fd)))).1 ≤ t := reS_le (by omega)
  refine J.callV F hJ lk_X4_85 im_X4_readEnd se_X4_readEnd (by decide +kernel) (c_rend ty hty t ht ((rnS ty t 0 100 (blS 3 s (a, pl, fd))).1) (by omega) ((rnS ty t 0 100 (blS 3 s (a, pl, fd))).2.1) ((rnS ty t 0 100 (blS 3 s (a, pl, fd))).2.2) lt 1) (fun k => k) (by omega) [] rfl rfl rfl rfl rfl (by decide) rfl (show List.Nodup [20, 21] by decide) (fun r ws' hk hp => ?_)
  obtain ⟨rfl, rfl⟩ := hp
  show J x 2 (ad, 0, 0) (36, [(0, .ref 20), (1, .int (nI s))], [], [(20, rO t ((reS ty t (rnS ty t 0 100 (blS 3 s (a, pl, fd)))).1) ((reS ty t (rnS ty t 0 100 (blS 3 s (a, pl, fd)))).2.1) ((reS ty t (rnS ty t 0 100 (blS 3 s (a, pl, fd)))).2.2) lt 1), (21, .inr (.inl (1, ty))), (25, .inl (1, [.ref 26, .ref 27, .ref 28, .int (h 0), .int (h 14), .int (h 15), .int (h 16), .int (rnv ty t ((blS 3 s (a, pl, fd)).1))]))])
  exact J.vret F hR (Nat.le_refl _) (Nat.le_refl _) rfl (by decide +kernel) ⟨rfl, keq [20, 21, 25] rfl rfl, rfl, rfl⟩
set_option maxHeartbeats 4000000 in
set_option maxRecDepth 100000 in
theorem c_rlaw0 (ty : List Int32) (hty : ty.length = 400) (t : Nat) (ht : t ≤ 400) (a : Nat) (ha : a ≤ t) (pl fd ct : Int32) (h : Nat → Int32) (s : Nat) : Ctr mk_X4_readLaw 8 [.ref 20, .int (nI s)] [(20, rO t a pl fd 0 ct), (21, .inr (.inl (1, ty))), (25, hD h)] (fun r u => r = none ∧ u = [(20, rO t ((reS ty t (rnS ty t 0 99 (rnS ty t 0 99 (rkS ty t (a, pl, fd))))).1) ((reS ty t (rnS ty t 0 99 (rnS ty t 0 99 (rkS ty t (a, pl, fd))))).2.1) ((reS ty t (rnS ty t 0 99 (rnS ty t 0 99 (rkS ty t (a, pl, fd))))).2.2) 1 ct), (21, .inr (.inl (1, ty))), (25, hD (hlw h (rkv ty t a) (rnv ty t (rkS ty t (a, pl, fd)).1) (rnv ty t (rnS ty t 0 99 (rkS ty t (a, pl, fd))).1)))]) := by
  refine Ctr.of rfl (Nat.le_of_ble_eq_true rfl) ?_
  intro x ad F hJ hR
  refine J.run (sn_X4_readLaw F) 9 [1] (S' := (23, [(0, .ref 20), (1, .int (nI s))], [.ref 20, .ref 25], [(20, .inl (4, [.ref 25, .int (nI t), .int pl, .ref 21, .int (nI a), .int fd, .int 1, .int ct])), (21, .inr (.inl (1, ty))), (25, hD h)])) (ob := [(0 : Int32) = 0, (1 : Int32) = 0 ∨ (1 : Int32) = 1]) rfl (ob_c (by decide) (ob_c (by decide) ob_n)) ?_
  have hqq1 : (rkS ty t (a, pl, fd)).1 ≤ t := rkS_le (by omega)
  refine J.callV F hJ lk_X4_92 im_X4_readKind se_X4_readKind (by decide +kernel) (c_rkind ty hty t ht a (by omega) pl fd 1 ct) (fun k => k) (by omega) [.ref 25] rfl rfl rfl rfl rfl (by decide) rfl (show List.Nodup [20, 21] by decide) (fun r ws' hk hp => ?_)
  obtain ⟨rfl, rfl⟩ := hp
  show J x 2 (ad, 0, 0) (26, [(0, .ref 20), (1, .int (nI s))], [.int (rkv ty t a), .ref 25], [(20, rO t ((rkS ty t (a, pl, fd)).1) ((rkS ty t (a, pl, fd)).2.1) ((rkS ty t (a, pl, fd)).2.2) 1 ct), (21, .inr (.inl (1, ty))), (25, hD h)])
  refine J.run (sn_X4_readLaw F) 6 [] (S' := (37, [(0, .ref 20), (1, .int (nI s))], [.int 99, .int 0, .ref 20, .ref 25], [(20, rO t ((rkS ty t (a, pl, fd)).1) ((rkS ty t (a, pl, fd)).2.1) ((rkS ty t (a, pl, fd)).2.2) 1 ct), (21, .inr (.inl (1, ty))), (25, .inl (1, [.ref 26, .ref 27, .ref 28, .int (h 0), .int (rkv ty t a), .int (h 15), .int (h 16), .int (h 1)]))])) (ob := []) rfl (ob_n) ?_
  have hqq2 : (rnS ty t 0 99 (rkS ty t (a, pl, fd))).1 ≤ t := rnS_le (by omega)
  refine J.callV F hJ lk_X4_81 im_X4_readNumber se_X4_readNumber (by decide +kernel) (c_rnum ty hty t ht ((rkS ty t (a, pl, fd)).1) (by omega) ((rkS ty t (a, pl, fd)).2.1) ((rkS ty t (a, pl, fd)).2.2) 1 ct 0 99) (fun k => k) (by omega) [.ref 25] rfl rfl rfl rfl rfl (by decide) rfl (show List.Nodup [20, 21] by decide) (fun r ws' hk hp => ?_)
  obtain ⟨rfl, rfl⟩ := hp
  show J x 2 (ad, 0, 0) (40, [(0, .ref 20), (1, .int (nI s))], [.int (rnv ty t ((rkS ty t (a, pl, fd)).1)), .ref 25], [(20, rO t ((rnS ty t 0 99 (rkS ty t (a, pl, fd))).1) ((rnS ty t 0 99 (rkS ty t (a, pl, fd))).2.1) ((rnS ty t 0 99 (rkS ty t (a, pl, fd))).2.2) 1 ct), (21, .inr (.inl (1, ty))), (25, .inl (1, [.ref 26, .ref 27, .ref 28, .int (h 0), .int (rkv ty t a), .int (h 15), .int (h 16), .int (h 1)]))])
  refine J.run (sn_X4_readLaw F) 6 [] (S' := (51, [(0, .ref 20), (1, .int (nI s))], [.int 99, .int 0, .ref 20, .ref 25], [(20, rO t ((rnS ty t 0 99 (rkS ty t (a, pl, fd))).1) ((rnS ty t 0 99 (rkS ty t (a, pl, fd))).2.1) ((rnS ty t 0 99 (rkS ty t (a, pl, fd))).2.2) 1 ct), (21, .inr (.inl (1, ty))), (25, .inl (1, [.ref 26, .ref 27, .ref 28, .int (h 0), .int (rkv ty t a), .int (rnv ty t ((rkS ty t (a, pl, fd)).1)), .int (h 16), .int (h 1)]))])) (ob := []) rfl (ob_n) ?_
  have hqq3 : (rnS ty t 0 99 (rnS ty t 0 99 (rkS ty t (a, pl, fd)))).1 ≤ t := rnS_le (by omega)
  refine J.callV F hJ lk_X4_81 im_X4_readNumber se_X4_readNumber (by decide +kernel) (c_rnum ty hty t ht ((rnS ty t 0 99 (rkS ty t (a, pl, fd))).1) (by omega) ((rnS ty t 0 99 (rkS ty t (a, pl, fd))).2.1) ((rnS ty t 0 99 (rkS ty t (a, pl, fd))).2.2) 1 ct 0 99) (fun k => k) (by omega) [.ref 25] rfl rfl rfl rfl rfl (by decide) rfl (show List.Nodup [20, 21] by decide) (fun r ws' hk hp => ?_)
  obtain ⟨rfl, rfl⟩ := hp
  show J x 2 (ad, 0, 0) (54, [(0, .ref 20), (1, .int (nI s))], [.int (rnv ty t ((rnS ty t 0 99 (rkS ty t (a, pl, fd))).1)), .ref 25], [(20, rO t ((rnS ty t 0 99 (rnS ty t 0 99 (rkS ty t (a, pl, fd)))).1) ((rnS ty t 0 99 (rnS ty t 0 99 (rkS ty t (a, pl, fd)))).2.1) ((rnS ty t 0 99 (rnS ty t 0 99 (rkS ty t (a, pl, fd)))).2.2) 1 ct), (21, .inr (.inl (1, ty))), (25, .inl (1, [.ref 26, .ref 27, .ref 28, .int (h 0), .int (rkv ty t a), .int (rnv ty t ((rkS ty t (a, pl, fd)).1)), .int (h 16), .int (h 1)]))])
  refine J.run (sn_X4_readLaw F) 2 [] (S' := (58, [(0, .ref 20), (1, .int (nI s))], [.ref 20], [(20, rO t ((rnS ty t 0 99 (rnS ty t 0 99 (rkS ty t (a, pl, fd)))).1) ((rnS ty t 0 99 (rnS ty t 0 99 (rkS ty t (a, pl, fd)))).2.1) ((rnS ty t 0 99 (rnS ty t 0 99 (rkS ty t (a, pl, fd)))).2.2) 1 ct), (21, .inr (.inl (1, ty))), (25, .inl (1, [.ref 26, .ref 27, .ref 28, .int (h 0), .int (rkv ty t a), .int (rnv ty t ((rkS ty t (a, pl, fd)).1)), .int (rnv ty t ((rnS ty t 0 99 (rkS ty t (a, pl, fd))).1)), .int (h 1)]))])) (ob := []) rfl (ob_n) ?_
  have hqq4 : (reS ty t (rnS ty t 0 99 (rnS ty t 0 99 (rkS ty t (a, pl, fd))))).1 ≤ t := reS_le (by omega)
  refine J.callV F hJ lk_X4_85 im_X4_readEnd se_X4_readEnd (by decide +kernel) (c_rend ty hty t ht ((rnS ty t 0 99 (rnS ty t 0 99 (rkS ty t (a, pl, fd)))).1) (by omega) ((rnS ty t 0 99 (rnS ty t 0 99 (rkS ty t (a, pl, fd)))).2.1) ((rnS ty t 0 99 (rnS ty t 0 99 (rkS ty t (a, pl, fd)))).2.2) 1 ct) (fun k => k) (by omega) [] rfl rfl rfl rfl rfl (by decide) rfl (show List.Nodup [20, 21] by decide) (fun r ws' hk hp => ?_)
  obtain ⟨rfl, rfl⟩ := hp
  show J x 2 (ad, 0, 0) (61, [(0, .ref 20), (1, .int (nI s))], [], [(20, rO t ((reS ty t (rnS ty t 0 99 (rnS ty t 0 99 (rkS ty t (a, pl, fd))))).1) ((reS ty t (rnS ty t 0 99 (rnS ty t 0 99 (rkS ty t (a, pl, fd))))).2.1) ((reS ty t (rnS ty t 0 99 (rnS ty t 0 99 (rkS ty t (a, pl, fd))))).2.2) 1 ct), (21, .inr (.inl (1, ty))), (25, .inl (1, [.ref 26, .ref 27, .ref 28, .int (h 0), .int (rkv ty t a), .int (rnv ty t ((rkS ty t (a, pl, fd)).1)), .int (rnv ty t ((rnS ty t 0 99 (rkS ty t (a, pl, fd))).1)), .int (h 1)]))])
  exact J.vret F hR (Nat.le_refl _) (Nat.le_refl _) rfl (by decide +kernel) ⟨rfl, keq [20, 21, 25] rfl rfl, rfl, rfl⟩
set_option maxHeartbeats 4000000 in
set_option maxRecDepth 100000 in
theorem c_rlaw1 (ty : List Int32) (hty : ty.length = 400) (t : Nat) (ht : t ≤ 400) (a : Nat) (ha : a ≤ t) (pl fd ct : Int32) (h : Nat → Int32) (s : Nat) : Ctr mk_X4_readLaw 8 [.ref 20, .int (nI s)] [(20, rO t a pl fd 1 ct), (21, .inr (.inl (1, ty))), (25, hD h)] (fun r u => r = none ∧ u = [(20, rO t ((reS ty t (rnS ty t 0 99 (rnS ty t 0 99 (rkS ty t (blS 3 s (a, pl, fd)))))).1) ((reS ty t (rnS ty t 0 99 (rnS ty t 0 99 (rkS ty t (blS 3 s (a, pl, fd)))))).2.1) ((reS ty t (rnS ty t 0 99 (rnS ty t 0 99 (rkS ty t (blS 3 s (a, pl, fd)))))).2.2) 1 ct), (21, .inr (.inl (1, ty))), (25, hD (hlw h (rkv ty t a) (rnv ty t (rkS ty t (blS 3 s (a, pl, fd))).1) (rnv ty t (rnS ty t 0 99 (rkS ty t (blS 3 s (a, pl, fd)))).1)))]) := by
  refine Ctr.of rfl (Nat.le_of_ble_eq_true rfl) ?_
  intro x ad F hJ hR
  refine J.run (sn_X4_readLaw F) 6 [0] (S' := (10, [(0, .ref 20), (1, .int (nI s))], [.int (nI s), .int 3, .ref 20], [(20, rO t a pl fd 1 ct), (21, .inr (.inl (1, ty))), (25, hD h)])) (ob := [¬ (1 : Int32) = 0]) rfl (ob_c (by decide) ob_n) ?_
  have hqq1 : (blS 3 s (a, pl, fd)).1 ≤ t := (by show a ≤ t; omega)
  refine J.callV F hJ lk_X4_74 im_X4_blame se_X4_blame (by decide +kernel) (c_blame t a pl fd 1 ct 3 (nI s) (by decide)) (fun k => k) (by omega) [] rfl rfl rfl rfl rfl (by decide) rfl (show List.Nodup [20] by decide) (fun r ws' hk hp => ?_)
  obtain ⟨rfl, rfl⟩ := hp
  show J x 2 (ad, 0, 0) (13, [(0, .ref 20), (1, .int (nI s))], [], [(20, rO t ((blS 3 s (a, pl, fd)).1) ((blS 3 s (a, pl, fd)).2.1) ((blS 3 s (a, pl, fd)).2.2) 1 ct), (21, .inr (.inl (1, ty))), (25, hD h)])
  refine J.run (sn_X4_readLaw F) 6 [] (S' := (23, [(0, .ref 20), (1, .int (nI s))], [.ref 20, .ref 25], [(20, .inl (4, [.ref 25, .int (nI t), .int ((blS 3 s (a, pl, fd)).2.1), .ref 21, .int (nI (blS 3 s (a, pl, fd)).1), .int ((blS 3 s (a, pl, fd)).2.2), .int 1, .int ct])), (21, .inr (.inl (1, ty))), (25, hD h)])) (ob := [(1 : Int32) = 0 ∨ (1 : Int32) = 1]) rfl (ob_c (by decide) ob_n) ?_
  have hqq2 : (rkS ty t (blS 3 s (a, pl, fd))).1 ≤ t := rkS_le (by omega)
  refine J.callV F hJ lk_X4_92 im_X4_readKind se_X4_readKind (by decide +kernel) (c_rkind ty hty t ht ((blS 3 s (a, pl, fd)).1) (by omega) ((blS 3 s (a, pl, fd)).2.1) ((blS 3 s (a, pl, fd)).2.2) 1 ct) (fun k => k) (by omega) [.ref 25] rfl rfl rfl rfl rfl (by decide) rfl (show List.Nodup [20, 21] by decide) (fun r ws' hk hp => ?_)
  obtain ⟨rfl, rfl⟩ := hp
  show J x 2 (ad, 0, 0) (26, [(0, .ref 20), (1, .int (nI s))], [.int (rkv ty t ((blS 3 s (a, pl, fd)).1)), .ref 25], [(20, rO t ((rkS ty t (blS 3 s (a, pl, fd))).1) ((rkS ty t (blS 3 s (a, pl, fd))).2.1) ((rkS ty t (blS 3 s (a, pl, fd))).2.2) 1 ct), (21, .inr (.inl (1, ty))), (25, hD h)])
  refine J.run (sn_X4_readLaw F) 6 [] (S' := (37, [(0, .ref 20), (1, .int (nI s))], [.int 99, .int 0, .ref 20, .ref 25], [(20, rO t ((rkS ty t (blS 3 s (a, pl, fd))).1) ((rkS ty t (blS 3 s (a, pl, fd))).2.1) ((rkS ty t (blS 3 s (a, pl, fd))).2.2) 1 ct), (21, .inr (.inl (1, ty))), (25, .inl (1, [.ref 26, .ref 27, .ref 28, .int (h 0), .int (rkv ty t ((blS 3 s (a, pl, fd)).1)), .int (h 15), .int (h 16), .int (h 1)]))])) (ob := []) rfl (ob_n) ?_
  have hqq3 : (rnS ty t 0 99 (rkS ty t (blS 3 s (a, pl, fd)))).1 ≤ t := rnS_le (by omega)
  refine J.callV F hJ lk_X4_81 im_X4_readNumber se_X4_readNumber (by decide +kernel) (c_rnum ty hty t ht ((rkS ty t (blS 3 s (a, pl, fd))).1) (by omega) ((rkS ty t (blS 3 s (a, pl, fd))).2.1) ((rkS ty t (blS 3 s (a, pl, fd))).2.2) 1 ct 0 99) (fun k => k) (by omega) [.ref 25] rfl rfl rfl rfl rfl (by decide) rfl (show List.Nodup [20, 21] by decide) (fun r ws' hk hp => ?_)
  obtain ⟨rfl, rfl⟩ := hp
  show J x 2 (ad, 0, 0) (40, [(0, .ref 20), (1, .int (nI s))], [.int (rnv ty t ((rkS ty t (blS 3 s (a, pl, fd))).1)), .ref 25], [(20, rO t ((rnS ty t 0 99 (rkS ty t (blS 3 s (a, pl, fd)))).1) ((rnS ty t 0 99 (rkS ty t (blS 3 s (a, pl, fd)))).2.1) ((rnS ty t 0 99 (rkS ty t (blS 3 s (a, pl, fd)))).2.2) 1 ct), (21, .inr (.inl (1, ty))), (25, .inl (1, [.ref 26, .ref 27, .ref 28, .int (h 0), .int (rkv ty t ((blS 3 s (a, pl, fd)).1)), .int (h 15), .int (h 16), .int (h 1)]))])
  refine J.run (sn_X4_readLaw F) 6 [] (S' := (51, [(0, .ref 20), (1, .int (nI s))], [.int 99, .int 0, .ref 20, .ref 25], [(20, rO t ((rnS ty t 0 99 (rkS ty t (blS 3 s (a, pl, fd)))).1) ((rnS ty t 0 99 (rkS ty t (blS 3 s (a, pl, fd)))).2.1) ((rnS ty t 0 99 (rkS ty t (blS 3 s (a, pl, fd)))).2.2) 1 ct), (21, .inr (.inl (1, ty))), (25, .inl (1, [.ref 26, .ref 27, .ref 28, .int (h 0), .int (rkv ty t ((blS 3 s (a, pl, fd)).1)), .int (rnv ty t ((rkS ty t (blS 3 s (a, pl, fd))).1)), .int (h 16), .int (h 1)]))])) (ob := []) rfl (ob_n) ?_
  have hqq4 : (rnS ty t 0 99 (rnS ty t 0 99 (rkS ty t (blS 3 s (a, pl, fd))))).1 ≤ t := rnS_le (by omega)
  refine J.callV F hJ lk_X4_81 im_X4_readNumber se_X4_readNumber (by decide +kernel) (c_rnum ty hty t ht ((rnS ty t 0 99 (rkS ty t (blS 3 s (a, pl, fd)))).1) (by omega) ((rnS ty t 0 99 (rkS ty t (blS 3 s (a, pl, fd)))).2.1) ((rnS ty t 0 99 (rkS ty t (blS 3 s (a, pl, fd)))).2.2) 1 ct 0 99) (fun k => k) (by omega) [.ref 25] rfl rfl rfl rfl rfl (by decide) rfl (show List.Nodup [20, 21] by decide) (fun r ws' hk hp => ?_)
  obtain ⟨rfl, rfl⟩ := hp
  show J x 2 (ad, 0, 0) (54, [(0, .ref 20), (1, .int (nI s))], [.int (rnv ty t ((rnS ty t 0 99 (rkS ty t (blS 3 s (a, pl, fd)))).1)), .ref 25], [(20, rO t ((rnS ty t 0 99 (rnS ty t 0 99 (rkS ty t (blS 3 s (a, pl, fd))))).1) ((rnS ty t 0 99 (rnS ty t 0 99 (rkS ty t (blS 3 s (a, pl, fd))))).2.1) ((rnS ty t 0 99 (rnS ty t 0 99 (rkS ty t (blS 3 s (a, pl, fd))))).2.2) 1 ct), (21, .inr (.inl (1, ty))), (25, .inl (1, [.ref 26, .ref 27, .ref 28, .int (h 0), .int (rkv ty t ((blS 3 s (a, pl, fd)).1)), .int (rnv ty t ((rkS ty t (blS 3 s (a, pl, fd))).1)), .int (h 16), .int (h 1)]))])
  refine J.run (sn_X4_readLaw F) 2 [] (S' := (58, [(0, .ref 20), (1, .int (nI s))], [.ref 20], [(20, rO t ((rnS ty t 0 99 (rnS ty t 0 99 (rkS ty t (blS 3 s (a, pl, fd))))).1) ((rnS ty t 0 99 (rnS ty t 0 99 (rkS ty t (blS 3 s (a, pl, fd))))).2.1) ((rnS ty t 0 99 (rnS ty t 0 99 (rkS ty t (blS 3 s (a, pl, fd))))).2.2) 1 ct), (21, .inr (.inl (1, ty))), (25, .inl (1, [.ref 26, .ref 27, .ref 28, .int (h 0), .int (rkv ty t ((blS 3 s (a, pl, fd)).1)), .int (rnv ty t ((rkS ty t (blS 3 s (a, pl, fd))).1)), .int (rnv ty t ((rnS ty t 0 99 (rkS ty t (blS 3 s (a, pl, fd)))).1)), .int (h 1)]))])) (ob := []) rfl (ob_n) ?_
  have hqq5 : (reS ty t (rnS ty t 0 99 (rnS ty t 0 99 (rkS ty t (blS 3 s (a, pl, fd)))))).1 ≤ t := reS_le (by omega)
  refine J.callV F hJ lk_X4_85 im_X4_readEnd se_X4_readEnd (by decide +kernel) (c_rend ty hty t ht ((rnS ty t 0 99 (rnS ty t 0 99 (rkS ty t (blS 3 s (a, pl, fd))))).1) (by omega) ((rnS ty t 0 99 (rnS ty t 0 99 (rkS ty t (blS 3 s (a, pl, fd))))).2.1) ((rnS ty t 0 99 (rnS ty t 0 99 (rkS ty t (blS 3 s (a, pl, fd))))).2.2) 1 ct) (fun k => k) (by omega) [] rfl rfl rfl rfl rfl (by decide) rfl (show List.Nodup [20, 21] by decide) (fun r ws' hk hp => ?_)
  obtain ⟨rfl, rfl⟩ := hp
  show J x 2 (ad, 0, 0) (61, [(0, .ref 20), (1, .int (nI s))], [], [(20, rO t ((reS ty t (rnS ty t 0 99 (rnS ty t 0 99 (rkS ty t (blS 3 s (a, pl, fd)))))).1) ((reS ty t (rnS ty t 0 99 (rnS ty t 0 99 (rkS ty t (blS 3 s (a, pl, fd)))))).2.1) ((reS ty t (rnS ty t 0 99 (rnS ty t 0 99 (rkS ty t (blS 3 s (a, pl, fd)))))).2.2) 1 ct), (21, .inr (.inl (1, ty))), (25, .inl (1, [.ref 26, .ref 27, .ref 28, .int (h 0), .int (rkv ty t ((blS 3 s (a, pl, fd)).1)), .int (rnv ty t ((rkS ty t (blS 3 s (a, pl, fd))).1)), .int (rnv ty t ((rnS ty t 0 99 (rkS ty t (blS 3 s (a, pl, fd)))).1)), .int (h 1)]))])
  exact J.vret F hR (Nat.le_refl _) (Nat.le_refl _) rfl (by decide +kernel) ⟨rfl, keq [20, 21, 25] rfl rfl, rfl, rfl⟩
set_option maxHeartbeats 4000000 in
set_option maxRecDepth 100000 in
theorem c_rmem0 (ty : List Int32) (hty : ty.length = 400) (t : Nat) (ht : t ≤ 400) (a : Nat) (ha : a ≤ t) (pl fd lt ct : Int32) (h : Nat → Int32) (s : Nat) (hm : h 0 = 0) : Ctr mk_X4_readMember 4 [.ref 20, .int (nI s)] [(20, rO t a pl fd lt ct), (21, .inr (.inl (1, ty))), (25, hD h), (26, s4 2 h), (27, s4 6 h), (28, s4 10 h)] (fun r u => r = none ∧ u = [(20, rO t ((reS ty t (rnS ty t 0 99 (rnS ty t 1 3 (rnS ty t 1 4 (a, pl, fd))))).1) ((reS ty t (rnS ty t 0 99 (rnS ty t 1 3 (rnS ty t 1 4 (a, pl, fd))))).2.1) ((reS ty t (rnS ty t 0 99 (rnS ty t 1 3 (rnS ty t 1 4 (a, pl, fd))))).2.2) lt ct), (21, .inr (.inl (1, ty))), (25, hD (if (reS ty t (rnS ty t 0 99 (rnS ty t 1 3 (rnS ty t 1 4 (a, pl, fd))))).2.2 = 0 then stH h 0 (rnv ty t a) (rnv ty t (rnS ty t 1 4 (a, pl, fd)).1) (rnv ty t (rnS ty t 1 3 (rnS ty t 1 4 (a, pl, fd))).1) else h)), (26, s4 2 (if (reS ty t (rnS ty t 0 99 (rnS ty t 1 3 (rnS ty t 1 4 (a, pl, fd))))).2.2 = 0 then stH h 0 (rnv ty t a) (rnv ty t (rnS ty t 1 4 (a, pl, fd)).1) (rnv ty t (rnS ty t 1 3 (rnS ty t 1 4 (a, pl, fd))).1) else h)), (27, s4 6 (if (reS ty t (rnS ty t 0 99 (rnS ty t 1 3 (rnS ty t 1 4 (a, pl, fd))))).2.2 = 0 then stH h 0 (rnv ty t a) (rnv ty t (rnS ty t 1 4 (a, pl, fd)).1) (rnv ty t (rnS ty t 1 3 (rnS ty t 1 4 (a, pl, fd))).1) else h)), (28, s4 10 (if (reS ty t (rnS ty t 0 99 (rnS ty t 1 3 (rnS ty t 1 4 (a, pl, fd))))).2.2 = 0 then stH h 0 (rnv ty t a) (rnv ty t (rnS ty t 1 4 (a, pl, fd)).1) (rnv ty t (rnS ty t 1 3 (rnS ty t 1 4 (a, pl, fd))).1) else h))]) := by
  refine Ctr.of rfl (Nat.le_of_ble_eq_true rfl) ?_
  intro x ad F hJ hR
  refine J.run (sn_X4_readMember F) 8 [1] (S' := (20, [(0, .ref 20), (1, .int (nI s))], [.int 4, .int 1, .ref 20], [(20, rO t a pl fd lt ct), (21, .inr (.inl (1, ty))), (25, hD h), (26, s4 2 h), (27, s4 6 h), (28, s4 10 h)])) (ob := [(h 0) < 4]) rfl (ob_c (by rw [hm]; decide) ob_n) ?_
  have hqq1 : (rnS ty t 1 4 (a, pl, fd)).1 ≤ t := rnS_le (by omega)
  refine J.callV F hJ lk_X4_81 im_X4_readNumber se_X4_readNumber (by decide +kernel) (c_rnum ty hty t ht a (by omega) pl fd lt ct 1 4) (fun k => k) (by omega) [] rfl rfl rfl rfl rfl (by decide) rfl (show List.Nodup [20, 21] by decide) (fun r ws' hk hp => ?_)
  obtain ⟨rfl, rfl⟩ := hp
  show J x 5 (ad, 0, 0) (23, [(0, .ref 20), (1, .int (nI s))], [.int (rnv ty t a)], [(20, rO t ((rnS ty t 1 4 (a, pl, fd)).1) ((rnS ty t 1 4 (a, pl, fd)).2.1) ((rnS ty t 1 4 (a, pl, fd)).2.2) lt ct), (21, .inr (.inl (1, ty))), (25, hD h), (26, s4 2 h), (27, s4 6 h), (28, s4 10 h)])
  refine J.run (sn_X4_readMember F) 4 [] (S' := (27, [(0, .ref 20), (1, .int (nI s)), (2, .int (rnv ty t a))], [.int 3, .int 1, .ref 20], [(20, rO t ((rnS ty t 1 4 (a, pl, fd)).1) ((rnS ty t 1 4 (a, pl, fd)).2.1) ((rnS ty t 1 4 (a, pl, fd)).2.2) lt ct), (21, .inr (.inl (1, ty))), (25, hD h), (26, s4 2 h), (27, s4 6 h), (28, s4 10 h)])) (ob := []) rfl (ob_n) ?_
  have hqq2 : (rnS ty t 1 3 (rnS ty t 1 4 (a, pl, fd))).1 ≤ t := rnS_le (by omega)
  refine J.callV F hJ lk_X4_81 im_X4_readNumber se_X4_readNumber (by decide +kernel) (c_rnum ty hty t ht ((rnS ty t 1 4 (a, pl, fd)).1) (by omega) ((rnS ty t 1 4 (a, pl, fd)).2.1) ((rnS ty t 1 4 (a, pl, fd)).2.2) lt ct 1 3) (fun k => k) (by omega) [] rfl rfl rfl rfl rfl (by decide) rfl (show List.Nodup [20, 21] by decide) (fun r ws' hk hp => ?_)
  obtain ⟨rfl, rfl⟩ := hp
  show J x 5 (ad, 0, 0) (30, [(0, .ref 20), (1, .int (nI s)), (2, .int (rnv ty t a))], [.int (rnv ty t ((rnS ty t 1 4 (a, pl, fd)).1))], [(20, rO t ((rnS ty t 1 3 (rnS ty t 1 4 (a, pl, fd))).1) ((rnS ty t 1 3 (rnS ty t 1 4 (a, pl, fd))).2.1) ((rnS ty t 1 3 (rnS ty t 1 4 (a, pl, fd))).2.2) lt ct), (21, .inr (.inl (1, ty))), (25, hD h), (26, s4 2 h), (27, s4 6 h), (28, s4 10 h)])
  refine J.run (sn_X4_readMember F) 4 [] (S' := (35, [(0, .ref 20), (1, .int (nI s)), (2, .int (rnv ty t a)), (3, .int (rnv ty t ((rnS ty t 1 4 (a, pl, fd)).1)))], [.int 99, .int 0, .ref 20], [(20, rO t ((rnS ty t 1 3 (rnS ty t 1 4 (a, pl, fd))).1) ((rnS ty t 1 3 (rnS ty t 1 4 (a, pl, fd))).2.1) ((rnS ty t 1 3 (rnS ty t 1 4 (a, pl, fd))).2.2) lt ct), (21, .inr (.inl (1, ty))), (25, hD h), (26, s4 2 h), (27, s4 6 h), (28, s4 10 h)])) (ob := []) rfl (ob_n) ?_
  have hqq3 : (rnS ty t 0 99 (rnS ty t 1 3 (rnS ty t 1 4 (a, pl, fd)))).1 ≤ t := rnS_le (by omega)
  refine J.callV F hJ lk_X4_81 im_X4_readNumber se_X4_readNumber (by decide +kernel) (c_rnum ty hty t ht ((rnS ty t 1 3 (rnS ty t 1 4 (a, pl, fd))).1) (by omega) ((rnS ty t 1 3 (rnS ty t 1 4 (a, pl, fd))).2.1) ((rnS ty t 1 3 (rnS ty t 1 4 (a, pl, fd))).2.2) lt ct 0 99) (fun k => k) (by omega) [] rfl rfl rfl rfl rfl (by decide) rfl (show List.Nodup [20, 21] by decide) (fun r ws' hk hp => ?_)
  obtain ⟨rfl, rfl⟩ := hp
  show J x 5 (ad, 0, 0) (38, [(0, .ref 20), (1, .int (nI s)), (2, .int (rnv ty t a)), (3, .int (rnv ty t ((rnS ty t 1 4 (a, pl, fd)).1)))], [.int (rnv ty t ((rnS ty t 1 3 (rnS ty t 1 4 (a, pl, fd))).1))], [(20, rO t ((rnS ty t 0 99 (rnS ty t 1 3 (rnS ty t 1 4 (a, pl, fd)))).1) ((rnS ty t 0 99 (rnS ty t 1 3 (rnS ty t 1 4 (a, pl, fd)))).2.1) ((rnS ty t 0 99 (rnS ty t 1 3 (rnS ty t 1 4 (a, pl, fd)))).2.2) lt ct), (21, .inr (.inl (1, ty))), (25, hD h), (26, s4 2 h), (27, s4 6 h), (28, s4 10 h)])
  refine J.run (sn_X4_readMember F) 2 [] (S' := (41, [(0, .ref 20), (1, .int (nI s)), (2, .int (rnv ty t a)), (3, .int (rnv ty t ((rnS ty t 1 4 (a, pl, fd)).1))), (4, .int (rnv ty t ((rnS ty t 1 3 (rnS ty t 1 4 (a, pl, fd))).1)))], [.ref 20], [(20, rO t ((rnS ty t 0 99 (rnS ty t 1 3 (rnS ty t 1 4 (a, pl, fd)))).1) ((rnS ty t 0 99 (rnS ty t 1 3 (rnS ty t 1 4 (a, pl, fd)))).2.1) ((rnS ty t 0 99 (rnS ty t 1 3 (rnS ty t 1 4 (a, pl, fd)))).2.2) lt ct), (21, .inr (.inl (1, ty))), (25, hD h), (26, s4 2 h), (27, s4 6 h), (28, s4 10 h)])) (ob := []) rfl (ob_n) ?_
  have hqq4 : (reS ty t (rnS ty t 0 99 (rnS ty t 1 3 (rnS ty t 1 4 (a, pl, fd))))).1 ≤ t := reS_le (by omega)
  refine J.callV F hJ lk_X4_85 im_X4_readEnd se_X4_readEnd (by decide +kernel) (c_rend ty hty t ht ((rnS ty t 0 99 (rnS ty t 1 3 (rnS ty t 1 4 (a, pl, fd)))).1) (by omega) ((rnS ty t 0 99 (rnS ty t 1 3 (rnS ty t 1 4 (a, pl, fd)))).2.1) ((rnS ty t 0 99 (rnS ty t 1 3 (rnS ty t 1 4 (a, pl, fd)))).2.2) lt ct) (fun k => k) (by omega) [] rfl rfl rfl rfl rfl (by decide) rfl (show List.Nodup [20, 21] by decide) (fun r ws' hk hp => ?_)
  obtain ⟨rfl, rfl⟩ := hp
  show J x 5 (ad, 0, 0) (44, [(0, .ref 20), (1, .int (nI s)), (2, .int (rnv ty t a)), (3, .int (rnv ty t ((rnS ty t 1 4 (a, pl, fd)).1))), (4, .int (rnv ty t ((rnS ty t 1 3 (rnS ty t 1 4 (a, pl, fd))).1)))], [], [(20, rO t ((reS ty t (rnS ty t 0 99 (rnS ty t 1 3 (rnS ty t 1 4 (a, pl, fd))))).1) ((reS ty t (rnS ty t 0 99 (rnS ty t 1 3 (rnS ty t 1 4 (a, pl, fd))))).2.1) ((reS ty t (rnS ty t 0 99 (rnS ty t 1 3 (rnS ty t 1 4 (a, pl, fd))))).2.2) lt ct), (21, .inr (.inl (1, ty))), (25, hD h), (26, s4 2 h), (27, s4 6 h), (28, s4 10 h)])
  by_cases h5 : ((reS ty t (rnS ty t 0 99 (rnS ty t 1 3 (rnS ty t 1 4 (a, pl, fd))))).2.2) = 0
  · skip
    refine J.run (sn_X4_readMember F) 8 [0] (S' := (59, [(0, .ref 20), (1, .int (nI s)), (2, .int (rnv ty t a)), (3, .int (rnv ty t ((rnS ty t 1 4 (a, pl, fd)).1))), (4, .int (rnv ty t ((rnS ty t 1 3 (rnS ty t 1 4 (a, pl, fd))).1)))], [.int (rnv ty t ((rnS ty t 1 3 (rnS ty t 1 4 (a, pl, fd))).1)), .int (rnv ty t ((rnS ty t 1 4 (a, pl, fd)).1)), .int (rnv ty t a), .ref 25], [(20, rO t ((reS ty t (rnS ty t 0 99 (rnS ty t 1 3 (rnS ty t 1 4 (a, pl, fd))))).1) ((reS ty t (rnS ty t 0 99 (rnS ty t 1 3 (rnS ty t 1 4 (a, pl, fd))))).2.1) ((reS ty t (rnS ty t 0 99 (rnS ty t 1 3 (rnS ty t 1 4 (a, pl, fd))))).2.2) lt ct), (21, .inr (.inl (1, ty))), (25, hD h), (26, s4 2 h), (27, s4 6 h), (28, s4 10 h)])) (ob := [((reS ty t (rnS ty t 0 99 (rnS ty t 1 3 (rnS ty t 1 4 (a, pl, fd))))).2.2) = 0]) rfl (ob_c h5 ob_n) ?_
    show J x 5 (ad, 0, 0) (59, [(0, .ref 20), (1, .int (nI s)), (2, .int (rnv ty t a)), (3, .int (rnv ty t ((rnS ty t 1 4 (a, pl, fd)).1))), (4, .int (rnv ty t ((rnS ty t 1 3 (rnS ty t 1 4 (a, pl, fd))).1)))], [.int (rnv ty t ((rnS ty t 1 3 (rnS ty t 1 4 (a, pl, fd))).1)), .int (rnv ty t ((rnS ty t 1 4 (a, pl, fd)).1)), .int (rnv ty t a), .ref 25], [(20, rO t ((reS ty t (rnS ty t 0 99 (rnS ty t 1 3 (rnS ty t 1 4 (a, pl, fd))))).1) ((reS ty t (rnS ty t 0 99 (rnS ty t 1 3 (rnS ty t 1 4 (a, pl, fd))))).2.1) ((reS ty t (rnS ty t 0 99 (rnS ty t 1 3 (rnS ty t 1 4 (a, pl, fd))))).2.2) lt ct), (21, .inr (.inl (1, ty))), (25, .inl (1, [.ref 26, .ref 27, .ref 28, .int (h 0), .int (h 14), .int (h 15), .int (h 16), .int (h 1)])), (26, s4 2 h), (27, s4 6 h), (28, s4 10 h)])
    rw [hm]
    refine J.callV F hJ lk_X4_88 im_X1_seat se_X1_seat (by decide +kernel) (c_seat0 h (rnv ty t a) (rnv ty t ((rnS ty t 1 4 (a, pl, fd)).1)) (rnv ty t ((rnS ty t 1 3 (rnS ty t 1 4 (a, pl, fd))).1))) (sm [(10, 25)]) (by omega) [] rfl rfl rfl rfl rfl (by decide) rfl (show List.Nodup [25, 26, 27, 28] by decide) (fun r ws' hk hp => ?_)
    obtain ⟨rfl, rfl⟩ := hp
    show J x 5 (ad, 0, 0) (62, [(0, .ref 20), (1, .int (nI s)), (2, .int (rnv ty t a)), (3, .int (rnv ty t ((rnS ty t 1 4 (a, pl, fd)).1))), (4, .int (rnv ty t ((rnS ty t 1 3 (rnS ty t 1 4 (a, pl, fd))).1)))], [], [(20, rO t ((reS ty t (rnS ty t 0 99 (rnS ty t 1 3 (rnS ty t 1 4 (a, pl, fd))))).1) ((reS ty t (rnS ty t 0 99 (rnS ty t 1 3 (rnS ty t 1 4 (a, pl, fd))))).2.1) ((reS ty t (rnS ty t 0 99 (rnS ty t 1 3 (rnS ty t 1 4 (a, pl, fd))))).2.2) lt ct), (21, .inr (.inl (1, ty))), (25, hD (stH h 0 (rnv ty t a) (rnv ty t ((rnS ty t 1 4 (a, pl, fd)).1)) (rnv ty t ((rnS ty t 1 3 (rnS ty t 1 4 (a, pl, fd))).1)))), (26, s4 2 (stH h 0 (rnv ty t a) (rnv ty t ((rnS ty t 1 4 (a, pl, fd)).1)) (rnv ty t ((rnS ty t 1 3 (rnS ty t 1 4 (a, pl, fd))).1)))), (27, s4 6 (stH h 0 (rnv ty t a) (rnv ty t ((rnS ty t 1 4 (a, pl, fd)).1)) (rnv ty t ((rnS ty t 1 3 (rnS ty t 1 4 (a, pl, fd))).1)))), (28, s4 10 (stH h 0 (rnv ty t a) (rnv ty t ((rnS ty t 1 4 (a, pl, fd)).1)) (rnv ty t ((rnS ty t 1 3 (rnS ty t 1 4 (a, pl, fd))).1))))])
    exact J.vret F hR (Nat.le_refl _) (Nat.le_refl _) rfl (by decide +kernel) ⟨rfl, keq [20, 21, 25, 26, 27, 28] rfl rfl, rfl, by rw [if_pos h5]⟩
  · skip
    refine J.run (sn_X4_readMember F) 3 [1] (S' := (62, [(0, .ref 20), (1, .int (nI s)), (2, .int (rnv ty t a)), (3, .int (rnv ty t ((rnS ty t 1 4 (a, pl, fd)).1))), (4, .int (rnv ty t ((rnS ty t 1 3 (rnS ty t 1 4 (a, pl, fd))).1)))], [], [(20, rO t ((reS ty t (rnS ty t 0 99 (rnS ty t 1 3 (rnS ty t 1 4 (a, pl, fd))))).1) ((reS ty t (rnS ty t 0 99 (rnS ty t 1 3 (rnS ty t 1 4 (a, pl, fd))))).2.1) ((reS ty t (rnS ty t 0 99 (rnS ty t 1 3 (rnS ty t 1 4 (a, pl, fd))))).2.2) lt ct), (21, .inr (.inl (1, ty))), (25, hD h), (26, s4 2 h), (27, s4 6 h), (28, s4 10 h)])) (ob := [¬ ((reS ty t (rnS ty t 0 99 (rnS ty t 1 3 (rnS ty t 1 4 (a, pl, fd))))).2.2) = 0]) rfl (ob_c h5 ob_n) ?_
    exact J.vret F hR (Nat.le_refl _) (Nat.le_refl _) rfl (by decide +kernel) ⟨rfl, keq [20, 21, 25, 26, 27, 28] rfl rfl, rfl, by rw [if_neg h5]⟩
set_option maxHeartbeats 4000000 in
set_option maxRecDepth 100000 in
theorem c_rmem1 (ty : List Int32) (hty : ty.length = 400) (t : Nat) (ht : t ≤ 400) (a : Nat) (ha : a ≤ t) (pl fd lt ct : Int32) (h : Nat → Int32) (s : Nat) (hm : h 0 = 1) : Ctr mk_X4_readMember 4 [.ref 20, .int (nI s)] [(20, rO t a pl fd lt ct), (21, .inr (.inl (1, ty))), (25, hD h), (26, s4 2 h), (27, s4 6 h), (28, s4 10 h)] (fun r u => r = none ∧ u = [(20, rO t ((reS ty t (rnS ty t 0 99 (rnS ty t 1 3 (rnS ty t 1 4 (a, pl, fd))))).1) ((reS ty t (rnS ty t 0 99 (rnS ty t 1 3 (rnS ty t 1 4 (a, pl, fd))))).2.1) ((reS ty t (rnS ty t 0 99 (rnS ty t 1 3 (rnS ty t 1 4 (a, pl, fd))))).2.2) lt ct), (21, .inr (.inl (1, ty))), (25, hD (if (reS ty t (rnS ty t 0 99 (rnS ty t 1 3 (rnS ty t 1 4 (a, pl, fd))))).2.2 = 0 then stH h 1 (rnv ty t a) (rnv ty t (rnS ty t 1 4 (a, pl, fd)).1) (rnv ty t (rnS ty t 1 3 (rnS ty t 1 4 (a, pl, fd))).1) else h)), (26, s4 2 (if (reS ty t (rnS ty t 0 99 (rnS ty t 1 3 (rnS ty t 1 4 (a, pl, fd))))).2.2 = 0 then stH h 1 (rnv ty t a) (rnv ty t (rnS ty t 1 4 (a, pl, fd)).1) (rnv ty t (rnS ty t 1 3 (rnS ty t 1 4 (a, pl, fd))).1) else h)), (27, s4 6 (if (reS ty t (rnS ty t 0 99 (rnS ty t 1 3 (rnS ty t 1 4 (a, pl, fd))))).2.2 = 0 then stH h 1 (rnv ty t a) (rnv ty t (rnS ty t 1 4 (a, pl, fd)).1) (rnv ty t (rnS ty t 1 3 (rnS ty t 1 4 (a, pl, fd))).1) else h)), (28, s4 10 (if (reS ty t (rnS ty t 0 99 (rnS ty t 1 3 (rnS ty t 1 4 (a, pl, fd))))).2.2 = 0 then stH h 1 (rnv ty t a) (rnv ty t (rnS ty t 1 4 (a, pl, fd)).1) (rnv ty t (rnS ty t 1 3 (rnS ty t 1 4 (a, pl, fd))).1) else h))]) := by
  refine Ctr.of rfl (Nat.le_of_ble_eq_true rfl) ?_
  intro x ad F hJ hR
  refine J.run (sn_X4_readMember F) 8 [1] (S' := (20, [(0, .ref 20), (1, .int (nI s))], [.int 4, .int 1, .ref 20], [(20, rO t a pl fd lt ct), (21, .inr (.inl (1, ty))), (25, hD h), (26, s4 2 h), (27, s4 6 h), (28, s4 10 h)])) (ob := [(h 0) < 4]) rfl (ob_c (by rw [hm]; decide) ob_n) ?_
  have hqq1 : (rnS ty t 1 4 (a, pl, fd)).1 ≤ t := rnS_le (by omega)
  refine J.callV F hJ lk_X4_81 im_X4_readNumber se_X4_readNumber (by decide +kernel) (c_rnum ty hty t ht a (by omega) pl fd lt ct 1 4) (fun k => k) (by omega) [] rfl rfl rfl rfl rfl (by decide) rfl (show List.Nodup [20, 21] by decide) (fun r ws' hk hp => ?_)
  obtain ⟨rfl, rfl⟩ := hp
  show J x 5 (ad, 0, 0) (23, [(0, .ref 20), (1, .int (nI s))], [.int (rnv ty t a)], [(20, rO t ((rnS ty t 1 4 (a, pl, fd)).1) ((rnS ty t 1 4 (a, pl, fd)).2.1) ((rnS ty t 1 4 (a, pl, fd)).2.2) lt ct), (21, .inr (.inl (1, ty))), (25, hD h), (26, s4 2 h), (27, s4 6 h), (28, s4 10 h)])
  refine J.run (sn_X4_readMember F) 4 [] (S' := (27, [(0, .ref 20), (1, .int (nI s)), (2, .int (rnv ty t a))], [.int 3, .int 1, .ref 20], [(20, rO t ((rnS ty t 1 4 (a, pl, fd)).1) ((rnS ty t 1 4 (a, pl, fd)).2.1) ((rnS ty t 1 4 (a, pl, fd)).2.2) lt ct), (21, .inr (.inl (1, ty))), (25, hD h), (26, s4 2 h), (27, s4 6 h), (28, s4 10 h)])) (ob := []) rfl (ob_n) ?_
  have hqq2 : (rnS ty t 1 3 (rnS ty t 1 4 (a, pl, fd))).1 ≤ t := rnS_le (by omega)
  refine J.callV F hJ lk_X4_81 im_X4_readNumber se_X4_readNumber (by decide +kernel) (c_rnum ty hty t ht ((rnS ty t 1 4 (a, pl, fd)).1) (by omega) ((rnS ty t 1 4 (a, pl, fd)).2.1) ((rnS ty t 1 4 (a, pl, fd)).2.2) lt ct 1 3) (fun k => k) (by omega) [] rfl rfl rfl rfl rfl (by decide) rfl (show List.Nodup [20, 21] by decide) (fun r ws' hk hp => ?_)
  obtain ⟨rfl, rfl⟩ := hp
  show J x 5 (ad, 0, 0) (30, [(0, .ref 20), (1, .int (nI s)), (2, .int (rnv ty t a))], [.int (rnv ty t ((rnS ty t 1 4 (a, pl, fd)).1))], [(20, rO t ((rnS ty t 1 3 (rnS ty t 1 4 (a, pl, fd))).1) ((rnS ty t 1 3 (rnS ty t 1 4 (a, pl, fd))).2.1) ((rnS ty t 1 3 (rnS ty t 1 4 (a, pl, fd))).2.2) lt ct), (21, .inr (.inl (1, ty))), (25, hD h), (26, s4 2 h), (27, s4 6 h), (28, s4 10 h)])
  refine J.run (sn_X4_readMember F) 4 [] (S' := (35, [(0, .ref 20), (1, .int (nI s)), (2, .int (rnv ty t a)), (3, .int (rnv ty t ((rnS ty t 1 4 (a, pl, fd)).1)))], [.int 99, .int 0, .ref 20], [(20, rO t ((rnS ty t 1 3 (rnS ty t 1 4 (a, pl, fd))).1) ((rnS ty t 1 3 (rnS ty t 1 4 (a, pl, fd))).2.1) ((rnS ty t 1 3 (rnS ty t 1 4 (a, pl, fd))).2.2) lt ct), (21, .inr (.inl (1, ty))), (25, hD h), (26, s4 2 h), (27, s4 6 h), (28, s4 10 h)])) (ob := []) rfl (ob_n) ?_
  have hqq3 : (rnS ty t 0 99 (rnS ty t 1 3 (rnS ty t 1 4 (a, pl, fd)))).1 ≤ t := rnS_le (by omega)
  refine J.callV F hJ lk_X4_81 im_X4_readNumber se_X4_readNumber (by decide +kernel) (c_rnum ty hty t ht ((rnS ty t 1 3 (rnS ty t 1 4 (a, pl, fd))).1) (by omega) ((rnS ty t 1 3 (rnS ty t 1 4 (a, pl, fd))).2.1) ((rnS ty t 1 3 (rnS ty t 1 4 (a, pl, fd))).2.2) lt ct 0 99) (fun k => k) (by omega) [] rfl rfl rfl rfl rfl (by decide) rfl (show List.Nodup [20, 21] by decide) (fun r ws' hk hp => ?_)
  obtain ⟨rfl, rfl⟩ := hp
  show J x 5 (ad, 0, 0) (38, [(0, .ref 20), (1, .int (nI s)), (2, .int (rnv ty t a)), (3, .int (rnv ty t ((rnS ty t 1 4 (a, pl, fd)).1)))], [.int (rnv ty t ((rnS ty t 1 3 (rnS ty t 1 4 (a, pl, fd))).1))], [(20, rO t ((rnS ty t 0 99 (rnS ty t 1 3 (rnS ty t 1 4 (a, pl, fd)))).1) ((rnS ty t 0 99 (rnS ty t 1 3 (rnS ty t 1 4 (a, pl, fd)))).2.1) ((rnS ty t 0 99 (rnS ty t 1 3 (rnS ty t 1 4 (a, pl, fd)))).2.2) lt ct), (21, .inr (.inl (1, ty))), (25, hD h), (26, s4 2 h), (27, s4 6 h), (28, s4 10 h)])
  refine J.run (sn_X4_readMember F) 2 [] (S' := (41, [(0, .ref 20), (1, .int (nI s)), (2, .int (rnv ty t a)), (3, .int (rnv ty t ((rnS ty t 1 4 (a, pl, fd)).1))), (4, .int (rnv ty t ((rnS ty t 1 3 (rnS ty t 1 4 (a, pl, fd))).1)))], [.ref 20], [(20, rO t ((rnS ty t 0 99 (rnS ty t 1 3 (rnS ty t 1 4 (a, pl, fd)))).1) ((rnS ty t 0 99 (rnS ty t 1 3 (rnS ty t 1 4 (a, pl, fd)))).2.1) ((rnS ty t 0 99 (rnS ty t 1 3 (rnS ty t 1 4 (a, pl, fd)))).2.2) lt ct), (21, .inr (.inl (1, ty))), (25, hD h), (26, s4 2 h), (27, s4 6 h), (28, s4 10 h)])) (ob := []) rfl (ob_n) ?_
  have hqq4 : (reS ty t (rnS ty t 0 99 (rnS ty t 1 3 (rnS ty t 1 4 (a, pl, fd))))).1 ≤ t := reS_le (by omega)
  refine J.callV F hJ lk_X4_85 im_X4_readEnd se_X4_readEnd (by decide +kernel) (c_rend ty hty t ht ((rnS ty t 0 99 (rnS ty t 1 3 (rnS ty t 1 4 (a, pl, fd)))).1) (by omega) ((rnS ty t 0 99 (rnS ty t 1 3 (rnS ty t 1 4 (a, pl, fd)))).2.1) ((rnS ty t 0 99 (rnS ty t 1 3 (rnS ty t 1 4 (a, pl, fd)))).2.2) lt ct) (fun k => k) (by omega) [] rfl rfl rfl rfl rfl (by decide) rfl (show List.Nodup [20, 21] by decide) (fun r ws' hk hp => ?_)
  obtain ⟨rfl, rfl⟩ := hp
  show J x 5 (ad, 0, 0) (44, [(0, .ref 20), (1, .int (nI s)), (2, .int (rnv ty t a)), (3, .int (rnv ty t ((rnS ty t 1 4 (a, pl, fd)).1))), (4, .int (rnv ty t ((rnS ty t 1 3 (rnS ty t 1 4 (a, pl, fd))).1)))], [], [(20, rO t ((reS ty t (rnS ty t 0 99 (rnS ty t 1 3 (rnS ty t 1 4 (a, pl, fd))))).1) ((reS ty t (rnS ty t 0 99 (rnS ty t 1 3 (rnS ty t 1 4 (a, pl, fd))))).2.1) ((reS ty t (rnS ty t 0 99 (rnS ty t 1 3 (rnS ty t 1 4 (a, pl, fd))))).2.2) lt ct), (21, .inr (.inl (1, ty))), (25, hD h), (26, s4 2 h), (27, s4 6 h), (28, s4 10 h)])
  by_cases h5 : ((reS ty t (rnS ty t 0 99 (rnS ty t 1 3 (rnS ty t 1 4 (a, pl, fd))))).2.2) = 0
  · skip
    refine J.run (sn_X4_readMember F) 8 [0] (S' := (59, [(0, .ref 20), (1, .int (nI s)), (2, .int (rnv ty t a)), (3, .int (rnv ty t ((rnS ty t 1 4 (a, pl, fd)).1))), (4, .int (rnv ty t ((rnS ty t 1 3 (rnS ty t 1 4 (a, pl, fd))).1)))], [.int (rnv ty t ((rnS ty t 1 3 (rnS ty t 1 4 (a, pl, fd))).1)), .int (rnv ty t ((rnS ty t 1 4 (a, pl, fd)).1)), .int (rnv ty t a), .ref 25], [(20, rO t ((reS ty t (rnS ty t 0 99 (rnS ty t 1 3 (rnS ty t 1 4 (a, pl, fd))))).1) ((reS ty t (rnS ty t 0 99 (rnS ty t 1 3 (rnS ty t 1 4 (a, pl, fd))))).2.1) ((reS ty t (rnS ty t 0 99 (rnS ty t 1 3 (rnS ty t 1 4 (a, pl, fd))))).2.2) lt ct), (21, .inr (.inl (1, ty))), (25, hD h), (26, s4 2 h), (27, s4 6 h), (28, s4 10 h)])) (ob := [((reS ty t (rnS ty t 0 99 (rnS ty t 1 3 (rnS ty t 1 4 (a, pl, fd))))).2.2) = 0]) rfl (ob_c h5 ob_n) ?_
    show J x 5 (ad, 0, 0) (59, [(0, .ref 20), (1, .int (nI s)), (2, .int (rnv ty t a)), (3, .int (rnv ty t ((rnS ty t 1 4 (a, pl, fd)).1))), (4, .int (rnv ty t ((rnS ty t 1 3 (rnS ty t 1 4 (a, pl, fd))).1)))], [.int (rnv ty t ((rnS ty t 1 3 (rnS ty t 1 4 (a, pl, fd))).1)), .int (rnv ty t ((rnS ty t 1 4 (a, pl, fd)).1)), .int (rnv ty t a), .ref 25], [(20, rO t ((reS ty t (rnS ty t 0 99 (rnS ty t 1 3 (rnS ty t 1 4 (a, pl, fd))))).1) ((reS ty t (rnS ty t 0 99 (rnS ty t 1 3 (rnS ty t 1 4 (a, pl, fd))))).2.1) ((reS ty t (rnS ty t 0 99 (rnS ty t 1 3 (rnS ty t 1 4 (a, pl, fd))))).2.2) lt ct), (21, .inr (.inl (1, ty))), (25, .inl (1, [.ref 26, .ref 27, .ref 28, .int (h 0), .int (h 14), .int (h 15), .int (h 16), .int (h 1)])), (26, s4 2 h), (27, s4 6 h), (28, s4 10 h)])
    rw [hm]
    refine J.callV F hJ lk_X4_88 im_X1_seat se_X1_seat (by decide +kernel) (c_seat1 h (rnv ty t a) (rnv ty t ((rnS ty t 1 4 (a, pl, fd)).1)) (rnv ty t ((rnS ty t 1 3 (rnS ty t 1 4 (a, pl, fd))).1))) (sm [(10, 25)]) (by omega) [] rfl rfl rfl rfl rfl (by decide) rfl (show List.Nodup [25, 26, 27, 28] by decide) (fun r ws' hk hp => ?_)
    obtain ⟨rfl, rfl⟩ := hp
    show J x 5 (ad, 0, 0) (62, [(0, .ref 20), (1, .int (nI s)), (2, .int (rnv ty t a)), (3, .int (rnv ty t ((rnS ty t 1 4 (a, pl, fd)).1))), (4, .int (rnv ty t ((rnS ty t 1 3 (rnS ty t 1 4 (a, pl, fd))).1)))], [], [(20, rO t ((reS ty t (rnS ty t 0 99 (rnS ty t 1 3 (rnS ty t 1 4 (a, pl, fd))))).1) ((reS ty t (rnS ty t 0 99 (rnS ty t 1 3 (rnS ty t 1 4 (a, pl, fd))))).2.1) ((reS ty t (rnS ty t 0 99 (rnS ty t 1 3 (rnS ty t 1 4 (a, pl, fd))))).2.2) lt ct), (21, .inr (.inl (1, ty))), (25, hD (stH h 1 (rnv ty t a) (rnv ty t ((rnS ty t 1 4 (a, pl, fd)).1)) (rnv ty t ((rnS ty t 1 3 (rnS ty t 1 4 (a, pl, fd))).1)))), (26, s4 2 (stH h 1 (rnv ty t a) (rnv ty t ((rnS ty t 1 4 (a, pl, fd)).1)) (rnv ty t ((rnS ty t 1 3 (rnS ty t 1 4 (a, pl, fd))).1)))), (27, s4 6 (stH h 1 (rnv ty t a) (rnv ty t ((rnS ty t 1 4 (a, pl, fd)).1)) (rnv ty t ((rnS ty t 1 3 (rnS ty t 1 4 (a, pl, fd))).1)))), (28, s4 10 (stH h 1 (rnv ty t a) (rnv ty t ((rnS ty t 1 4 (a, pl, fd)).1)) (rnv ty t ((rnS ty t 1 3 (rnS ty t 1 4 (a, pl, fd))).1))))])
    exact J.vret F hR (Nat.le_refl _) (Nat.le_refl _) rfl (by decide +kernel) ⟨rfl, keq [20, 21, 25, 26, 27, 28] rfl rfl, rfl, by rw [if_pos h5]⟩
  · skip
    refine J.run (sn_X4_readMember F) 3 [1] (S' := (62, [(0, .ref 20), (1, .int (nI s)), (2, .int (rnv ty t a)), (3, .int (rnv ty t ((rnS ty t 1 4 (a, pl, fd)).1))), (4, .int (rnv ty t ((rnS ty t 1 3 (rnS ty t 1 4 (a, pl, fd))).1)))], [], [(20, rO t ((reS ty t (rnS ty t 0 99 (rnS ty t 1 3 (rnS ty t 1 4 (a, pl, fd))))).1) ((reS ty t (rnS ty t 0 99 (rnS ty t 1 3 (rnS ty t 1 4 (a, pl, fd))))).2.1) ((reS ty t (rnS ty t 0 99 (rnS ty t 1 3 (rnS ty t 1 4 (a, pl, fd))))).2.2) lt ct), (21, .inr (.inl (1, ty))), (25, hD h), (26, s4 2 h), (27, s4 6 h), (28, s4 10 h)])) (ob := [¬ ((reS ty t (rnS ty t 0 99 (rnS ty t 1 3 (rnS ty t 1 4 (a, pl, fd))))).2.2) = 0]) rfl (ob_c h5 ob_n) ?_
    exact J.vret F hR (Nat.le_refl _) (Nat.le_refl _) rfl (by decide +kernel) ⟨rfl, keq [20, 21, 25, 26, 27, 28] rfl rfl, rfl, by rw [if_neg h5]⟩
set_option maxHeartbeats 4000000 in
set_option maxRecDepth 100000 in
theorem c_rmem2 (ty : List Int32) (hty : ty.length = 400) (t : Nat) (ht : t ≤ 400) (a : Nat) (ha : a ≤ t) (pl fd lt ct : Int32) (h : Nat → Int32) (s : Nat) (hm : h 0 = 2) : Ctr mk_X4_readMember 4 [.ref 20, .int (nI s)] [(20, rO t a pl fd lt ct), (21, .inr (.inl (1, ty))), (25, hD h), (26, s4 2 h), (27, s4 6 h), (28, s4 10 h)] (fun r u => r = none ∧ u = [(20, rO t ((reS ty t (rnS ty t 0 99 (rnS ty t 1 3 (rnS ty t 1 4 (a, pl, fd))))).1) ((reS ty t (rnS ty t 0 99 (rnS ty t 1 3 (rnS ty t 1 4 (a, pl, fd))))).2.1) ((reS ty t (rnS ty t 0 99 (rnS ty t 1 3 (rnS ty t 1 4 (a, pl, fd))))).2.2) lt ct), (21, .inr (.inl (1, ty))), (25, hD (if (reS ty t (rnS ty t 0 99 (rnS ty t 1 3 (rnS ty t 1 4 (a, pl, fd))))).2.2 = 0 then stH h 2 (rnv ty t a) (rnv ty t (rnS ty t 1 4 (a, pl, fd)).1) (rnv ty t (rnS ty t 1 3 (rnS ty t 1 4 (a, pl, fd))).1) else h)), (26, s4 2 (if (reS ty t (rnS ty t 0 99 (rnS ty t 1 3 (rnS ty t 1 4 (a, pl, fd))))).2.2 = 0 then stH h 2 (rnv ty t a) (rnv ty t (rnS ty t 1 4 (a, pl, fd)).1) (rnv ty t (rnS ty t 1 3 (rnS ty t 1 4 (a, pl, fd))).1) else h)), (27, s4 6 (if (reS ty t (rnS ty t 0 99 (rnS ty t 1 3 (rnS ty t 1 4 (a, pl, fd))))).2.2 = 0 then stH h 2 (rnv ty t a) (rnv ty t (rnS ty t 1 4 (a, pl, fd)).1) (rnv ty t (rnS ty t 1 3 (rnS ty t 1 4 (a, pl, fd))).1) else h)), (28, s4 10 (if (reS ty t (rnS ty t 0 99 (rnS ty t 1 3 (rnS ty t 1 4 (a, pl, fd))))).2.2 = 0 then stH h 2 (rnv ty t a) (rnv ty t (rnS ty t 1 4 (a, pl, fd)).1) (rnv ty t (rnS ty t 1 3 (rnS ty t 1 4 (a, pl, fd))).1) else h))]) := by
  refine Ctr.of rfl (Nat.le_of_ble_eq_true rfl) ?_
  intro x ad F hJ hR
  refine J.run (sn_X4_readMember F) 8 [1] (S' := (20, [(0, .ref 20), (1, .int (nI s))], [.int 4, .int 1, .ref 20], [(20, rO t a pl fd lt ct), (21, .inr (.inl (1, ty))), (25, hD h), (26, s4 2 h), (27, s4 6 h), (28, s4 10 h)])) (ob := [(h 0) < 4]) rfl (ob_c (by rw [hm]; decide) ob_n) ?_
  have hqq1 : (rnS ty t 1 4 (a, pl, fd)).1 ≤ t := rnS_le (by omega)
  refine J.callV F hJ lk_X4_81 im_X4_readNumber se_X4_readNumber (by decide +kernel) (c_rnum ty hty t ht a (by omega) pl fd lt ct 1 4) (fun k => k) (by omega) [] rfl rfl rfl rfl rfl (by decide) rfl (show List.Nodup [20, 21] by decide) (fun r ws' hk hp => ?_)
  obtain ⟨rfl, rfl⟩ := hp
  show J x 5 (ad, 0, 0) (23, [(0, .ref 20), (1, .int (nI s))], [.int (rnv ty t a)], [(20, rO t ((rnS ty t 1 4 (a, pl, fd)).1) ((rnS ty t 1 4 (a, pl, fd)).2.1) ((rnS ty t 1 4 (a, pl, fd)).2.2) lt ct), (21, .inr (.inl (1, ty))), (25, hD h), (26, s4 2 h), (27, s4 6 h), (28, s4 10 h)])
  refine J.run (sn_X4_readMember F) 4 [] (S' := (27, [(0, .ref 20), (1, .int (nI s)), (2, .int (rnv ty t a))], [.int 3, .int 1, .ref 20], [(20, rO t ((rnS ty t 1 4 (a, pl, fd)).1) ((rnS ty t 1 4 (a, pl, fd)).2.1) ((rnS ty t 1 4 (a, pl, fd)).2.2) lt ct), (21, .inr (.inl (1, ty))), (25, hD h), (26, s4 2 h), (27, s4 6 h), (28, s4 10 h)])) (ob := []) rfl (ob_n) ?_
  have hqq2 : (rnS ty t 1 3 (rnS ty t 1 4 (a, pl, fd))).1 ≤ t := rnS_le (by omega)
  refine J.callV F hJ lk_X4_81 im_X4_readNumber se_X4_readNumber (by decide +kernel) (c_rnum ty hty t ht ((rnS ty t 1 4 (a, pl, fd)).1) (by omega) ((rnS ty t 1 4 (a, pl, fd)).2.1) ((rnS ty t 1 4 (a, pl, fd)).2.2) lt ct 1 3) (fun k => k) (by omega) [] rfl rfl rfl rfl rfl (by decide) rfl (show List.Nodup [20, 21] by decide) (fun r ws' hk hp => ?_)
  obtain ⟨rfl, rfl⟩ := hp
  show J x 5 (ad, 0, 0) (30, [(0, .ref 20), (1, .int (nI s)), (2, .int (rnv ty t a))], [.int (rnv ty t ((rnS ty t 1 4 (a, pl, fd)).1))], [(20, rO t ((rnS ty t 1 3 (rnS ty t 1 4 (a, pl, fd))).1) ((rnS ty t 1 3 (rnS ty t 1 4 (a, pl, fd))).2.1) ((rnS ty t 1 3 (rnS ty t 1 4 (a, pl, fd))).2.2) lt ct), (21, .inr (.inl (1, ty))), (25, hD h), (26, s4 2 h), (27, s4 6 h), (28, s4 10 h)])
  refine J.run (sn_X4_readMember F) 4 [] (S' := (35, [(0, .ref 20), (1, .int (nI s)), (2, .int (rnv ty t a)), (3, .int (rnv ty t ((rnS ty t 1 4 (a, pl, fd)).1)))], [.int 99, .int 0, .ref 20], [(20, rO t ((rnS ty t 1 3 (rnS ty t 1 4 (a, pl, fd))).1) ((rnS ty t 1 3 (rnS ty t 1 4 (a, pl, fd))).2.1) ((rnS ty t 1 3 (rnS ty t 1 4 (a, pl, fd))).2.2) lt ct), (21, .inr (.inl (1, ty))), (25, hD h), (26, s4 2 h), (27, s4 6 h), (28, s4 10 h)])) (ob := []) rfl (ob_n) ?_
  have hqq3 : (rnS ty t 0 99 (rnS ty t 1 3 (rnS ty t 1 4 (a, pl, fd)))).1 ≤ t := rnS_le (by omega)
  refine J.callV F hJ lk_X4_81 im_X4_readNumber se_X4_readNumber (by decide +kernel) (c_rnum ty hty t ht ((rnS ty t 1 3 (rnS ty t 1 4 (a, pl, fd))).1) (by omega) ((rnS ty t 1 3 (rnS ty t 1 4 (a, pl, fd))).2.1) ((rnS ty t 1 3 (rnS ty t 1 4 (a, pl, fd))).2.2) lt ct 0 99) (fun k => k) (by omega) [] rfl rfl rfl rfl rfl (by decide) rfl (show List.Nodup [20, 21] by decide) (fun r ws' hk hp => ?_)
  obtain ⟨rfl, rfl⟩ := hp
  show J x 5 (ad, 0, 0) (38, [(0, .ref 20), (1, .int (nI s)), (2, .int (rnv ty t a)), (3, .int (rnv ty t ((rnS ty t 1 4 (a, pl, fd)).1)))], [.int (rnv ty t ((rnS ty t 1 3 (rnS ty t 1 4 (a, pl, fd))).1))], [(20, rO t ((rnS ty t 0 99 (rnS ty t 1 3 (rnS ty t 1 4 (a, pl, fd)))).1) ((rnS ty t 0 99 (rnS ty t 1 3 (rnS ty t 1 4 (a, pl, fd)))).2.1) ((rnS ty t 0 99 (rnS ty t 1 3 (rnS ty t 1 4 (a, pl, fd)))).2.2) lt ct), (21, .inr (.inl (1, ty))), (25, hD h), (26, s4 2 h), (27, s4 6 h), (28, s4 10 h)])
  refine J.run (sn_X4_readMember F) 2 [] (S' := (41, [(0, .ref 20), (1, .int (nI s)), (2, .int (rnv ty t a)), (3, .int (rnv ty t ((rnS ty t 1 4 (a, pl, fd)).1))), (4, .int (rnv ty t ((rnS ty t 1 3 (rnS ty t 1 4 (a, pl, fd))).1)))], [.ref 20], [(20, rO t ((rnS ty t 0 99 (rnS ty t 1 3 (rnS ty t 1 4 (a, pl, fd)))).1) ((rnS ty t 0 99 (rnS ty t 1 3 (rnS ty t 1 4 (a, pl, fd)))).2.1) ((rnS ty t 0 99 (rnS ty t 1 3 (rnS ty t 1 4 (a, pl, fd)))).2.2) lt ct), (21, .inr (.inl (1, ty))), (25, hD h), (26, s4 2 h), (27, s4 6 h), (28, s4 10 h)])) (ob := []) rfl (ob_n) ?_
  have hqq4 : (reS ty t (rnS ty t 0 99 (rnS ty t 1 3 (rnS ty t 1 4 (a, pl, fd))))).1 ≤ t := reS_le (by omega)
  refine J.callV F hJ lk_X4_85 im_X4_readEnd se_X4_readEnd (by decide +kernel) (c_rend ty hty t ht ((rnS ty t 0 99 (rnS ty t 1 3 (rnS ty t 1 4 (a, pl, fd)))).1) (by omega) ((rnS ty t 0 99 (rnS ty t 1 3 (rnS ty t 1 4 (a, pl, fd)))).2.1) ((rnS ty t 0 99 (rnS ty t 1 3 (rnS ty t 1 4 (a, pl, fd)))).2.2) lt ct) (fun k => k) (by omega) [] rfl rfl rfl rfl rfl (by decide) rfl (show List.Nodup [20, 21] by decide) (fun r ws' hk hp => ?_)
  obtain ⟨rfl, rfl⟩ := hp
  show J x 5 (ad, 0, 0) (44, [(0, .ref 20), (1, .int (nI s)), (2, .int (rnv ty t a)), (3, .int (rnv ty t ((rnS ty t 1 4 (a, pl, fd)).1))), (4, .int (rnv ty t ((rnS ty t 1 3 (rnS ty t 1 4 (a, pl, fd))).1)))], [], [(20, rO t ((reS ty t (rnS ty t 0 99 (rnS ty t 1 3 (rnS ty t 1 4 (a, pl, fd))))).1) ((reS ty t (rnS ty t 0 99 (rnS ty t 1 3 (rnS ty t 1 4 (a, pl, fd))))).2.1) ((reS ty t (rnS ty t 0 99 (rnS ty t 1 3 (rnS ty t 1 4 (a, pl, fd))))).2.2) lt ct), (21, .inr (.inl (1, ty))), (25, hD h), (26, s4 2 h), (27, s4 6 h), (28, s4 10 h)])
  by_cases h5 : ((reS ty t (rnS ty t 0 99 (rnS ty t 1 3 (rnS ty t 1 4 (a, pl, fd))))).2.2) = 0
  · skip
    refine J.run (sn_X4_readMember F) 8 [0] (S' := (59, [(0, .ref 20), (1, .int (nI s)), (2, .int (rnv ty t a)), (3, .int (rnv ty t ((rnS ty t 1 4 (a, pl, fd)).1))), (4, .int (rnv ty t ((rnS ty t 1 3 (rnS ty t 1 4 (a, pl, fd))).1)))], [.int (rnv ty t ((rnS ty t 1 3 (rnS ty t 1 4 (a, pl, fd))).1)), .int (rnv ty t ((rnS ty t 1 4 (a, pl, fd)).1)), .int (rnv ty t a), .ref 25], [(20, rO t ((reS ty t (rnS ty t 0 99 (rnS ty t 1 3 (rnS ty t 1 4 (a, pl, fd))))).1) ((reS ty t (rnS ty t 0 99 (rnS ty t 1 3 (rnS ty t 1 4 (a, pl, fd))))).2.1) ((reS ty t (rnS ty t 0 99 (rnS ty t 1 3 (rnS ty t 1 4 (a, pl, fd))))).2.2) lt ct), (21, .inr (.inl (1, ty))), (25, hD h), (26, s4 2 h), (27, s4 6 h), (28, s4 10 h)])) (ob := [((reS ty t (rnS ty t 0 99 (rnS ty t 1 3 (rnS ty t 1 4 (a, pl, fd))))).2.2) = 0]) rfl (ob_c h5 ob_n) ?_
    show J x 5 (ad, 0, 0) (59, [(0, .ref 20), (1, .int (nI s)), (2, .int (rnv ty t a)), (3, .int (rnv ty t ((rnS ty t 1 4 (a, pl, fd)).1))), (4, .int (rnv ty t ((rnS ty t 1 3 (rnS ty t 1 4 (a, pl, fd))).1)))], [.int (rnv ty t ((rnS ty t 1 3 (rnS ty t 1 4 (a, pl, fd))).1)), .int (rnv ty t ((rnS ty t 1 4 (a, pl, fd)).1)), .int (rnv ty t a), .ref 25], [(20, rO t ((reS ty t (rnS ty t 0 99 (rnS ty t 1 3 (rnS ty t 1 4 (a, pl, fd))))).1) ((reS ty t (rnS ty t 0 99 (rnS ty t 1 3 (rnS ty t 1 4 (a, pl, fd))))).2.1) ((reS ty t (rnS ty t 0 99 (rnS ty t 1 3 (rnS ty t 1 4 (a, pl, fd))))).2.2) lt ct), (21, .inr (.inl (1, ty))), (25, .inl (1, [.ref 26, .ref 27, .ref 28, .int (h 0), .int (h 14), .int (h 15), .int (h 16), .int (h 1)])), (26, s4 2 h), (27, s4 6 h), (28, s4 10 h)])
    rw [hm]
    refine J.callV F hJ lk_X4_88 im_X1_seat se_X1_seat (by decide +kernel) (c_seat2 h (rnv ty t a) (rnv ty t ((rnS ty t 1 4 (a, pl, fd)).1)) (rnv ty t ((rnS ty t 1 3 (rnS ty t 1 4 (a, pl, fd))).1))) (sm [(10, 25)]) (by omega) [] rfl rfl rfl rfl rfl (by decide) rfl (show List.Nodup [25, 26, 27, 28] by decide) (fun r ws' hk hp => ?_)
    obtain ⟨rfl, rfl⟩ := hp
    show J x 5 (ad, 0, 0) (62, [(0, .ref 20), (1, .int (nI s)), (2, .int (rnv ty t a)), (3, .int (rnv ty t ((rnS ty t 1 4 (a, pl, fd)).1))), (4, .int (rnv ty t ((rnS ty t 1 3 (rnS ty t 1 4 (a, pl, fd))).1)))], [], [(20, rO t ((reS ty t (rnS ty t 0 99 (rnS ty t 1 3 (rnS ty t 1 4 (a, pl, fd))))).1) ((reS ty t (rnS ty t 0 99 (rnS ty t 1 3 (rnS ty t 1 4 (a, pl, fd))))).2.1) ((reS ty t (rnS ty t 0 99 (rnS ty t 1 3 (rnS ty t 1 4 (a, pl, fd))))).2.2) lt ct), (21, .inr (.inl (1, ty))), (25, hD (stH h 2 (rnv ty t a) (rnv ty t ((rnS ty t 1 4 (a, pl, fd)).1)) (rnv ty t ((rnS ty t 1 3 (rnS ty t 1 4 (a, pl, fd))).1)))), (26, s4 2 (stH h 2 (rnv ty t a) (rnv ty t ((rnS ty t 1 4 (a, pl, fd)).1)) (rnv ty t ((rnS ty t 1 3 (rnS ty t 1 4 (a, pl, fd))).1)))), (27, s4 6 (stH h 2 (rnv ty t a) (rnv ty t ((rnS ty t 1 4 (a, pl, fd)).1)) (rnv ty t ((rnS ty t 1 3 (rnS ty t 1 4 (a, pl, fd))).1)))), (28, s4 10 (stH h 2 (rnv ty t a) (rnv ty t ((rnS ty t 1 4 (a, pl, fd)).1)) (rnv ty t ((rnS ty t 1 3 (rnS ty t 1 4 (a, pl, fd))).1))))])
    exact J.vret F hR (Nat.le_refl _) (Nat.le_refl _) rfl (by decide +kernel) ⟨rfl, keq [20, 21, 25, 26, 27, 28] rfl rfl, rfl, by rw [if_pos h5]⟩
  · skip
    refine J.run (sn_X4_readMember F) 3 [1] (S' := (62, [(0, .ref 20), (1, .int (nI s)), (2, .int (rnv ty t a)), (3, .int (rnv ty t ((rnS ty t 1 4 (a, pl, fd)).1))), (4, .int (rnv ty t ((rnS ty t 1 3 (rnS ty t 1 4 (a, pl, fd))).1)))], [], [(20, rO t ((reS ty t (rnS ty t 0 99 (rnS ty t 1 3 (rnS ty t 1 4 (a, pl, fd))))).1) ((reS ty t (rnS ty t 0 99 (rnS ty t 1 3 (rnS ty t 1 4 (a, pl, fd))))).2.1) ((reS ty t (rnS ty t 0 99 (rnS ty t 1 3 (rnS ty t 1 4 (a, pl, fd))))).2.2) lt ct), (21, .inr (.inl (1, ty))), (25, hD h), (26, s4 2 h), (27, s4 6 h), (28, s4 10 h)])) (ob := [¬ ((reS ty t (rnS ty t 0 99 (rnS ty t 1 3 (rnS ty t 1 4 (a, pl, fd))))).2.2) = 0]) rfl (ob_c h5 ob_n) ?_
    exact J.vret F hR (Nat.le_refl _) (Nat.le_refl _) rfl (by decide +kernel) ⟨rfl, keq [20, 21, 25, 26, 27, 28] rfl rfl, rfl, by rw [if_neg h5]⟩
set_option maxHeartbeats 4000000 in
set_option maxRecDepth 100000 in
theorem c_rmem3 (ty : List Int32) (hty : ty.length = 400) (t : Nat) (ht : t ≤ 400) (a : Nat) (ha : a ≤ t) (pl fd lt ct : Int32) (h : Nat → Int32) (s : Nat) (hm : h 0 = 3) : Ctr mk_X4_readMember 4 [.ref 20, .int (nI s)] [(20, rO t a pl fd lt ct), (21, .inr (.inl (1, ty))), (25, hD h), (26, s4 2 h), (27, s4 6 h), (28, s4 10 h)] (fun r u => r = none ∧ u = [(20, rO t ((reS ty t (rnS ty t 0 99 (rnS ty t 1 3 (rnS ty t 1 4 (a, pl, fd))))).1) ((reS ty t (rnS ty t 0 99 (rnS ty t 1 3 (rnS ty t 1 4 (a, pl, fd))))).2.1) ((reS ty t (rnS ty t 0 99 (rnS ty t 1 3 (rnS ty t 1 4 (a, pl, fd))))).2.2) lt ct), (21, .inr (.inl (1, ty))), (25, hD (if (reS ty t (rnS ty t 0 99 (rnS ty t 1 3 (rnS ty t 1 4 (a, pl, fd))))).2.2 = 0 then stH h 3 (rnv ty t a) (rnv ty t (rnS ty t 1 4 (a, pl, fd)).1) (rnv ty t (rnS ty t 1 3 (rnS ty t 1 4 (a, pl, fd))).1) else h)), (26, s4 2 (if (reS ty t (rnS ty t 0 99 (rnS ty t 1 3 (rnS ty t 1 4 (a, pl, fd))))).2.2 = 0 then stH h 3 (rnv ty t a) (rnv ty t (rnS ty t 1 4 (a, pl, fd)).1) (rnv ty t (rnS ty t 1 3 (rnS ty t 1 4 (a, pl, fd))).1) else h)), (27, s4 6 (if (reS ty t (rnS ty t 0 99 (rnS ty t 1 3 (rnS ty t 1 4 (a, pl, fd))))).2.2 = 0 then stH h 3 (rnv ty t a) (rnv ty t (rnS ty t 1 4 (a, pl, fd)).1) (rnv ty t (rnS ty t 1 3 (rnS ty t 1 4 (a, pl, fd))).1) else h)), (28, s4 10 (if (reS ty t (rnS ty t 0 99 (rnS ty t 1 3 (rnS ty t 1 4 (a, pl, fd))))).2.2 = 0 then stH h 3 (rnv ty t a) (rnv ty t (rnS ty t 1 4 (a, pl, fd)).1) (rnv ty t (rnS ty t 1 3 (rnS ty t 1 4 (a, pl, fd))).1) else h))]) := by
  refine Ctr.of rfl (Nat.le_of_ble_eq_true rfl) ?_
  intro x ad F hJ hR
  refine J.run (sn_X4_readMember F) 8 [1] (S' := (20, [(0, .ref 20), (1, .int (nI s))], [.int 4, .int 1, .ref 20], [(20, rO t a pl fd lt ct), (21, .inr (.inl (1, ty))), (25, hD h), (26, s4 2 h), (27, s4 6 h), (28, s4 10 h)])) (ob := [(h 0) < 4]) rfl (ob_c (by rw [hm]; decide) ob_n) ?_
  have hqq1 : (rnS ty t 1 4 (a, pl, fd)).1 ≤ t := rnS_le (by omega)
  refine J.callV F hJ lk_X4_81 im_X4_readNumber se_X4_readNumber (by decide +kernel) (c_rnum ty hty t ht a (by omega) pl fd lt ct 1 4) (fun k => k) (by omega) [] rfl rfl rfl rfl rfl (by decide) rfl (show List.Nodup [20, 21] by decide) (fun r ws' hk hp => ?_)
  obtain ⟨rfl, rfl⟩ := hp
  show J x 5 (ad, 0, 0) (23, [(0, .ref 20), (1, .int (nI s))], [.int (rnv ty t a)], [(20, rO t ((rnS ty t 1 4 (a, pl, fd)).1) ((rnS ty t 1 4 (a, pl, fd)).2.1) ((rnS ty t 1 4 (a, pl, fd)).2.2) lt ct), (21, .inr (.inl (1, ty))), (25, hD h), (26, s4 2 h), (27, s4 6 h), (28, s4 10 h)])
  refine J.run (sn_X4_readMember F) 4 [] (S' := (27, [(0, .ref 20), (1, .int (nI s)), (2, .int (rnv ty t a))], [.int 3, .int 1, .ref 20], [(20, rO t ((rnS ty t 1 4 (a, pl, fd)).1) ((rnS ty t 1 4 (a, pl, fd)).2.1) ((rnS ty t 1 4 (a, pl, fd)).2.2) lt ct), (21, .inr (.inl (1, ty))), (25, hD h), (26, s4 2 h), (27, s4 6 h), (28, s4 10 h)])) (ob := []) rfl (ob_n) ?_
  have hqq2 : (rnS ty t 1 3 (rnS ty t 1 4 (a, pl, fd))).1 ≤ t := rnS_le (by omega)
  refine J.callV F hJ lk_X4_81 im_X4_readNumber se_X4_readNumber (by decide +kernel) (c_rnum ty hty t ht ((rnS ty t 1 4 (a, pl, fd)).1) (by omega) ((rnS ty t 1 4 (a, pl, fd)).2.1) ((rnS ty t 1 4 (a, pl, fd)).2.2) lt ct 1 3) (fun k => k) (by omega) [] rfl rfl rfl rfl rfl (by decide) rfl (show List.Nodup [20, 21] by decide) (fun r ws' hk hp => ?_)
  obtain ⟨rfl, rfl⟩ := hp
  show J x 5 (ad, 0, 0) (30, [(0, .ref 20), (1, .int (nI s)), (2, .int (rnv ty t a))], [.int (rnv ty t ((rnS ty t 1 4 (a, pl, fd)).1))], [(20, rO t ((rnS ty t 1 3 (rnS ty t 1 4 (a, pl, fd))).1) ((rnS ty t 1 3 (rnS ty t 1 4 (a, pl, fd))).2.1) ((rnS ty t 1 3 (rnS ty t 1 4 (a, pl, fd))).2.2) lt ct), (21, .inr (.inl (1, ty))), (25, hD h), (26, s4 2 h), (27, s4 6 h), (28, s4 10 h)])
  refine J.run (sn_X4_readMember F) 4 [] (S' := (35, [(0, .ref 20), (1, .int (nI s)), (2, .int (rnv ty t a)), (3, .int (rnv ty t ((rnS ty t 1 4 (a, pl, fd)).1)))], [.int 99, .int 0, .ref 20], [(20, rO t ((rnS ty t 1 3 (rnS ty t 1 4 (a, pl, fd))).1) ((rnS ty t 1 3 (rnS ty t 1 4 (a, pl, fd))).2.1) ((rnS ty t 1 3 (rnS ty t 1 4 (a, pl, fd))).2.2) lt ct), (21, .inr (.inl (1, ty))), (25, hD h), (26, s4 2 h), (27, s4 6 h), (28, s4 10 h)])) (ob := []) rfl (ob_n) ?_
  have hqq3 : (rnS ty t 0 99 (rnS ty t 1 3 (rnS ty t 1 4 (a, pl, fd)))).1 ≤ t := rnS_le (by omega)
  refine J.callV F hJ lk_X4_81 im_X4_readNumber se_X4_readNumber (by decide +kernel) (c_rnum ty hty t ht ((rnS ty t 1 3 (rnS ty t 1 4 (a, pl, fd))).1) (by omega) ((rnS ty t 1 3 (rnS ty t 1 4 (a, pl, fd))).2.1) ((rnS ty t 1 3 (rnS ty t 1 4 (a, pl, fd))).2.2) lt ct 0 99) (fun k => k) (by omega) [] rfl rfl rfl rfl rfl (by decide) rfl (show List.Nodup [20, 21] by decide) (fun r ws' hk hp => ?_)
  obtain ⟨rfl, rfl⟩ := hp
  show J x 5 (ad, 0, 0) (38, [(0, .ref 20), (1, .int (nI s)), (2, .int (rnv ty t a)), (3, .int (rnv ty t ((rnS ty t 1 4 (a, pl, fd)).1)))], [.int (rnv ty t ((rnS ty t 1 3 (rnS ty t 1 4 (a, pl, fd))).1))], [(20, rO t ((rnS ty t 0 99 (rnS ty t 1 3 (rnS ty t 1 4 (a, pl, fd)))).1) ((rnS ty t 0 99 (rnS ty t 1 3 (rnS ty t 1 4 (a, pl, fd)))).2.1) ((rnS ty t 0 99 (rnS ty t 1 3 (rnS ty t 1 4 (a, pl, fd)))).2.2) lt ct), (21, .inr (.inl (1, ty))), (25, hD h), (26, s4 2 h), (27, s4 6 h), (28, s4 10 h)])
  refine J.run (sn_X4_readMember F) 2 [] (S' := (41, [(0, .ref 20), (1, .int (nI s)), (2, .int (rnv ty t a)), (3, .int (rnv ty t ((rnS ty t 1 4 (a, pl, fd)).1))), (4, .int (rnv ty t ((rnS ty t 1 3 (rnS ty t 1 4 (a, pl, fd))).1)))], [.ref 20], [(20, rO t ((rnS ty t 0 99 (rnS ty t 1 3 (rnS ty t 1 4 (a, pl, fd)))).1) ((rnS ty t 0 99 (rnS ty t 1 3 (rnS ty t 1 4 (a, pl, fd)))).2.1) ((rnS ty t 0 99 (rnS ty t 1 3 (rnS ty t 1 4 (a, pl, fd)))).2.2) lt ct), (21, .inr (.inl (1, ty))), (25, hD h), (26, s4 2 h), (27, s4 6 h), (28, s4 10 h)])) (ob := []) rfl (ob_n) ?_
  have hqq4 : (reS ty t (rnS ty t 0 99 (rnS ty t 1 3 (rnS ty t 1 4 (a, pl, fd))))).1 ≤ t := reS_le (by omega)
  refine J.callV F hJ lk_X4_85 im_X4_readEnd se_X4_readEnd (by decide +kernel) (c_rend ty hty t ht ((rnS ty t 0 99 (rnS ty t 1 3 (rnS ty t 1 4 (a, pl, fd)))).1) (by omega) ((rnS ty t 0 99 (rnS ty t 1 3 (rnS ty t 1 4 (a, pl, fd)))).2.1) ((rnS ty t 0 99 (rnS ty t 1 3 (rnS ty t 1 4 (a, pl, fd)))).2.2) lt ct) (fun k => k) (by omega) [] rfl rfl rfl rfl rfl (by decide) rfl (show List.Nodup [20, 21] by decide) (fun r ws' hk hp => ?_)
  obtain ⟨rfl, rfl⟩ := hp
  show J x 5 (ad, 0, 0) (44, [(0, .ref 20), (1, .int (nI s)), (2, .int (rnv ty t a)), (3, .int (rnv ty t ((rnS ty t 1 4 (a, pl, fd)).1))), (4, .int (rnv ty t ((rnS ty t 1 3 (rnS ty t 1 4 (a, pl, fd))).1)))], [], [(20, rO t ((reS ty t (rnS ty t 0 99 (rnS ty t 1 3 (rnS ty t 1 4 (a, pl, fd))))).1) ((reS ty t (rnS ty t 0 99 (rnS ty t 1 3 (rnS ty t 1 4 (a, pl, fd))))).2.1) ((reS ty t (rnS ty t 0 99 (rnS ty t 1 3 (rnS ty t 1 4 (a, pl, fd))))).2.2) lt ct), (21, .inr (.inl (1, ty))), (25, hD h), (26, s4 2 h), (27, s4 6 h), (28, s4 10 h)])
  by_cases h5 : ((reS ty t (rnS ty t 0 99 (rnS ty t 1 3 (rnS ty t 1 4 (a, pl, fd))))).2.2) = 0
  · skip
    refine J.run (sn_X4_readMember F) 8 [0] (S' := (59, [(0, .ref 20), (1, .int (nI s)), (2, .int (rnv ty t a)), (3, .int (rnv ty t ((rnS ty t 1 4 (a, pl, fd)).1))), (4, .int (rnv ty t ((rnS ty t 1 3 (rnS ty t 1 4 (a, pl, fd))).1)))], [.int (rnv ty t ((rnS ty t 1 3 (rnS ty t 1 4 (a, pl, fd))).1)), .int (rnv ty t ((rnS ty t 1 4 (a, pl, fd)).1)), .int (rnv ty t a), .ref 25], [(20, rO t ((reS ty t (rnS ty t 0 99 (rnS ty t 1 3 (rnS ty t 1 4 (a, pl, fd))))).1) ((reS ty t (rnS ty t 0 99 (rnS ty t 1 3 (rnS ty t 1 4 (a, pl, fd))))).2.1) ((reS ty t (rnS ty t 0 99 (rnS ty t 1 3 (rnS ty t 1 4 (a, pl, fd))))).2.2) lt ct), (21, .inr (.inl (1, ty))), (25, hD h), (26, s4 2 h), (27, s4 6 h), (28, s4 10 h)])) (ob := [((reS ty t (rnS ty t 0 99 (rnS ty t 1 3 (rnS ty t 1 4 (a, pl, fd))))).2.2) = 0]) rfl (ob_c h5 ob_n) ?_
    show J x 5 (ad, 0, 0) (59, [(0, .ref 20), (1, .int (nI s)), (2, .int (rnv ty t a)), (3, .int (rnv ty t ((rnS ty t 1 4 (a, pl, fd)).1))), (4, .int (rnv ty t ((rnS ty t 1 3 (rnS ty t 1 4 (a, pl, fd))).1)))], [.int (rnv ty t ((rnS ty t 1 3 (rnS ty t 1 4 (a, pl, fd))).1)), .int (rnv ty t ((rnS ty t 1 4 (a, pl, fd)).1)), .int (rnv ty t a), .ref 25], [(20, rO t ((reS ty t (rnS ty t 0 99 (rnS ty t 1 3 (rnS ty t 1 4 (a, pl, fd))))).1) ((reS ty t (rnS ty t 0 99 (rnS ty t 1 3 (rnS ty t 1 4 (a, pl, fd))))).2.1) ((reS ty t (rnS ty t 0 99 (rnS ty t 1 3 (rnS ty t 1 4 (a, pl, fd))))).2.2) lt ct), (21, .inr (.inl (1, ty))), (25, .inl (1, [.ref 26, .ref 27, .ref 28, .int (h 0), .int (h 14), .int (h 15), .int (h 16), .int (h 1)])), (26, s4 2 h), (27, s4 6 h), (28, s4 10 h)])
    rw [hm]
    refine J.callV F hJ lk_X4_88 im_X1_seat se_X1_seat (by decide +kernel) (c_seat3 h (rnv ty t a) (rnv ty t ((rnS ty t 1 4 (a, pl, fd)).1)) (rnv ty t ((rnS ty t 1 3 (rnS ty t 1 4 (a, pl, fd))).1))) (sm [(10, 25)]) (by omega) [] rfl rfl rfl rfl rfl (by decide) rfl (show List.Nodup [25, 26, 27, 28] by decide) (fun r ws' hk hp => ?_)
    obtain ⟨rfl, rfl⟩ := hp
    show J x 5 (ad, 0, 0) (62, [(0, .ref 20), (1, .int (nI s)), (2, .int (rnv ty t a)), (3, .int (rnv ty t ((rnS ty t 1 4 (a, pl, fd)).1))), (4, .int (rnv ty t ((rnS ty t 1 3 (rnS ty t 1 4 (a, pl, fd))).1)))], [], [(20, rO t ((reS ty t (rnS ty t 0 99 (rnS ty t 1 3 (rnS ty t 1 4 (a, pl, fd))))).1) ((reS ty t (rnS ty t 0 99 (rnS ty t 1 3 (rnS ty t 1 4 (a, pl, fd))))).2.1) ((reS ty t (rnS ty t 0 99 (rnS ty t 1 3 (rnS ty t 1 4 (a, pl, fd))))).2.2) lt ct), (21, .inr (.inl (1, ty))), (25, hD (stH h 3 (rnv ty t a) (rnv ty t ((rnS ty t 1 4 (a, pl, fd)).1)) (rnv ty t ((rnS ty t 1 3 (rnS ty t 1 4 (a, pl, fd))).1)))), (26, s4 2 (stH h 3 (rnv ty t a) (rnv ty t ((rnS ty t 1 4 (a, pl, fd)).1)) (rnv ty t ((rnS ty t 1 3 (rnS ty t 1 4 (a, pl, fd))).1)))), (27, s4 6 (stH h 3 (rnv ty t a) (rnv ty t ((rnS ty t 1 4 (a, pl, fd)).1)) (rnv ty t ((rnS ty t 1 3 (rnS ty t 1 4 (a, pl, fd))).1)))), (28, s4 10 (stH h 3 (rnv ty t a) (rnv ty t ((rnS ty t 1 4 (a, pl, fd)).1)) (rnv ty t ((rnS ty t 1 3 (rnS ty t 1 4 (a, pl, fd))).1))))])
    exact J.vret F hR (Nat.le_refl _) (Nat.le_refl _) rfl (by decide +kernel) ⟨rfl, keq [20, 21, 25, 26, 27, 28] rfl rfl, rfl, by rw [if_pos h5]⟩
  · skip
    refine J.run (sn_X4_readMember F) 3 [1] (S' := (62, [(0, .ref 20), (1, .int (nI s)), (2, .int (rnv ty t a)), (3, .int (rnv ty t ((rnS ty t 1 4 (a, pl, fd)).1))), (4, .int (rnv ty t ((rnS ty t 1 3 (rnS ty t 1 4 (a, pl, fd))).1)))], [], [(20, rO t ((reS ty t (rnS ty t 0 99 (rnS ty t 1 3 (rnS ty t 1 4 (a, pl, fd))))).1) ((reS ty t (rnS ty t 0 99 (rnS ty t 1 3 (rnS ty t 1 4 (a, pl, fd))))).2.1) ((reS ty t (rnS ty t 0 99 (rnS ty t 1 3 (rnS ty t 1 4 (a, pl, fd))))).2.2) lt ct), (21, .inr (.inl (1, ty))), (25, hD h), (26, s4 2 h), (27, s4 6 h), (28, s4 10 h)])) (ob := [¬ ((reS ty t (rnS ty t 0 99 (rnS ty t 1 3 (rnS ty t 1 4 (a, pl, fd))))).2.2) = 0]) rfl (ob_c h5 ob_n) ?_
    exact J.vret F hR (Nat.le_refl _) (Nat.le_refl _) rfl (by decide +kernel) ⟨rfl, keq [20, 21, 25, 26, 27, 28] rfl rfl, rfl, by rw [if_neg h5]⟩
set_option maxHeartbeats 4000000 in
set_option maxRecDepth 100000 in
theorem c_rmem4 (ty : List Int32) (hty : ty.length = 400) (t : Nat) (ht : t ≤ 400) (a : Nat) (ha : a ≤ t) (pl fd lt ct : Int32) (h : Nat → Int32) (s : Nat) (hm : h 0 = 4) : Ctr mk_X4_readMember 4 [.ref 20, .int (nI s)] [(20, rO t a pl fd lt ct), (21, .inr (.inl (1, ty))), (25, hD h), (26, s4 2 h), (27, s4 6 h), (28, s4 10 h)] (fun r u => r = none ∧ u = [(20, rO t ((reS ty t (rnS ty t 0 99 (rnS ty t 1 3 (rnS ty t 1 4 (blS 3 s (a, pl, fd)))))).1) ((reS ty t (rnS ty t 0 99 (rnS ty t 1 3 (rnS ty t 1 4 (blS 3 s (a, pl, fd)))))).2.1) ((reS ty t (rnS ty t 0 99 (rnS ty t 1 3 (rnS ty t 1 4 (blS 3 s (a, pl, fd)))))).2.2) lt ct), (21, .inr (.inl (1, ty))), (25, hD h), (26, s4 2 h), (27, s4 6 h), (28, s4 10 h)]) := by
  refine Ctr.of rfl (Nat.le_of_ble_eq_true rfl) ?_
  intro x ad F hJ hR
  have h4nz : ¬ (reS ty t (rnS ty t 0 99 (rnS ty t 1 3 (rnS ty t 1 4 (blS 3 s (a, pl, fd)))))).2.2 = 0 := reS_nz (rnS_nz (rnS_nz (rnS_nz (blS_nz (by decide)))))
  refine J.run (sn_X4_readMember F) 8 [0] (S' := (14, [(0, .ref 20), (1, .int (nI s))], [.int (nI s), .int 3, .ref 20], [(20, rO t a pl fd lt ct), (21, .inr (.inl (1, ty))), (25, hD h), (26, s4 2 h), (27, s4 6 h), (28, s4 10 h)])) (ob := [¬ (h 0) < 4]) rfl (ob_c (by rw [hm]; decide) ob_n) ?_
  have hqq1 : (blS 3 s (a, pl, fd)).1 ≤ t := (by show a ≤ t; omega)
  refine J.callV F hJ lk_X4_74 im_X4_blame se_X4_blame (by decide +kernel) (c_blame t a pl fd lt ct 3 (nI s) (by decide)) (fun k => k) (by omega) [] rfl rfl rfl rfl rfl (by decide) rfl (show List.Nodup [20] by decide) (fun r ws' hk hp => ?_)
  obtain ⟨rfl, rfl⟩ := hp
  show J x 5 (ad, 0, 0) (17, [(0, .ref 20), (1, .int (nI s))], [], [(20, rO t ((blS 3 s (a, pl, fd)).1) ((blS 3 s (a, pl, fd)).2.1) ((blS 3 s (a, pl, fd)).2.2) lt ct), (21, .inr (.inl (1, ty))), (25, hD h), (26, s4 2 h), (27, s4 6 h), (28, s4 10 h)])
  refine J.run (sn_X4_readMember F) 3 [] (S' := (20, [(0, .ref 20), (1, .int (nI s))], [.int 4, .int 1, .ref 20], [(20, rO t ((blS 3 s (a, pl, fd)).1) ((blS 3 s (a, pl, fd)).2.1) ((blS 3 s (a, pl, fd)).2.2) lt ct), (21, .inr (.inl (1, ty))), (25, hD h), (26, s4 2 h), (27, s4 6 h), (28, s4 10 h)])) (ob := []) rfl (ob_n) ?_
  have hqq2 : (rnS ty t 1 4 (blS 3 s (a, pl, fd))).1 ≤ t := rnS_le (by omega)
  refine J.callV F hJ lk_X4_81 im_X4_readNumber se_X4_readNumber (by decide +kernel) (c_rnum ty hty t ht ((blS 3 s (a, pl, fd)).1) (by omega) ((blS 3 s (a, pl, fd)).2.1) ((blS 3 s (a, pl, fd)).2.2) lt ct 1 4) (fun k => k) (by omega) [] rfl rfl rfl rfl rfl (by decide) rfl (show List.Nodup [20, 21] by decide) (fun r ws' hk hp => ?_)
  obtain ⟨rfl, rfl⟩ := hp
  show J x 5 (ad, 0, 0) (23, [(0, .ref 20), (1, .int (nI s))], [.int (rnv ty t ((blS 3 s (a, pl, fd)).1))], [(20, rO t ((rnS ty t 1 4 (blS 3 s (a, pl, fd))).1) ((rnS ty t 1 4 (blS 3 s (a, pl, fd))).2.1) ((rnS ty t 1 4 (blS 3 s (a, pl, fd))).2.2) lt ct), (21, .inr (.inl (1, ty))), (25, hD h), (26, s4 2 h), (27, s4 6 h), (28, s4 10 h)])
  refine J.run (sn_X4_readMember F) 4 [] (S' := (27, [(0, .ref 20), (1, .int (nI s)), (2, .int (rnv ty t ((blS 3 s (a, pl, fd)).1)))], [.int 3, .int 1, .ref 20], [(20, rO t ((rnS ty t 1 4 (blS 3 s (a, pl, fd))).1) ((rnS ty t 1 4 (blS 3 s (a, pl, fd))).2.1) ((rnS ty t 1 4 (blS 3 s (a, pl, fd))).2.2) lt ct), (21, .inr (.inl (1, ty))), (25, hD h), (26, s4 2 h), (27, s4 6 h), (28, s4 10 h)])) (ob := []) rfl (ob_n) ?_
  have hqq3 : (rnS ty t 1 3 (rnS ty t 1 4 (blS 3 s (a, pl, fd)))).1 ≤ t := rnS_le (by omega)
  refine J.callV F hJ lk_X4_81 im_X4_readNumber se_X4_readNumber (by decide +kernel) (c_rnum ty hty t ht ((rnS ty t 1 4 (blS 3 s (a, pl, fd))).1) (by omega) ((rnS ty t 1 4 (blS 3 s (a, pl, fd))).2.1) ((rnS ty t 1 4 (blS 3 s (a, pl, fd))).2.2) lt ct 1 3) (fun k => k) (by omega) [] rfl rfl rfl rfl rfl (by decide) rfl (show List.Nodup [20, 21] by decide) (fun r ws' hk hp => ?_)
  obtain ⟨rfl, rfl⟩ := hp
  show J x 5 (ad, 0, 0) (30, [(0, .ref 20), (1, .int (nI s)), (2, .int (rnv ty t ((blS 3 s (a, pl, fd)).1)))], [.int (rnv ty t ((rnS ty t 1 4 (blS 3 s (a, pl, fd))).1))], [(20, rO t ((rnS ty t 1 3 (rnS ty t 1 4 (blS 3 s (a, pl, fd)))).1) ((rnS ty t 1 3 (rnS ty t 1 4 (blS 3 s (a, pl, fd)))).2.1) ((rnS ty t 1 3 (rnS ty t 1 4 (blS 3 s (a, pl, fd)))).2.2) lt ct), (21, .inr (.inl (1, ty))), (25, hD h), (26, s4 2 h), (27, s4 6 h), (28, s4 10 h)])
  refine J.run (sn_X4_readMember F) 4 [] (S' := (35, [(0, .ref 20), (1, .int (nI s)), (2, .int (rnv ty t ((blS 3 s (a, pl, fd)).1))), (3, .int (rnv ty t ((rnS ty t 1 4 (blS 3 s (a, pl, fd))).1)))], [.int 99, .int 0, .ref 20], [(20, rO t ((rnS ty t 1 3 (rnS ty t 1 4 (blS 3 s (a, pl, fd)))).1) ((rnS ty t 1 3 (rnS ty t 1 4 (blS 3 s (a, pl, fd)))).2.1) ((rnS ty t 1 3 (rnS ty t 1 4 (blS 3 s (a, pl, fd)))).2.2) lt ct), (21, .inr (.inl (1, ty))), (25, hD h), (26, s4 2 h), (27, s4 6 h), (28, s4 10 h)])) (ob := []) rfl (ob_n) ?_
  have hqq4 : (rnS ty t 0 99 (rnS ty t 1 3 (rnS ty t 1 4 (blS 3 s (a, pl, fd))))).1 ≤ t := rnS_le (by omega)
  refine J.callV F hJ lk_X4_81 im_X4_readNumber se_X4_readNumber (by decide +kernel) (c_rnum ty hty t ht ((rnS ty t 1 3 (rnS ty t 1 4 (blS 3 s (a, pl, fd)))).1) (by omega) ((rnS ty t 1 3 (rnS ty t 1 4 (blS 3 s (a, pl, fd)))).2.1) ((rnS ty t 1 3 (rnS ty t 1 4 (blS 3 s (a, pl, fd)))).2.2) lt ct 0 99) (fun k => k) (by omega) [] rfl rfl rfl rfl rfl (by decide) rfl (show List.Nodup [20, 21] by decide) (fun r ws' hk hp => ?_)
  obtain ⟨rfl, rfl⟩ := hp
  show J x 5 (ad, 0, 0) (38, [(0, .ref 20), (1, .int (nI s)), (2, .int (rnv ty t ((blS 3 s (a, pl, fd)).1))), (3, .int (rnv ty t ((rnS ty t 1 4 (blS 3 s (a, pl, fd))).1)))], [.int (rnv ty t ((rnS ty t 1 3 (rnS ty t 1 4 (blS 3 s (a, pl, fd)))).1))], [(20, rO t ((rnS ty t 0 99 (rnS ty t 1 3 (rnS ty t 1 4 (blS 3 s (a, pl, fd))))).1) ((rnS ty t 0 99 (rnS ty t 1 3 (rnS ty t 1 4 (blS 3 s (a, pl, fd))))).2.1) ((rnS ty t 0 99 (rnS ty t 1 3 (rnS ty t 1 4 (blS 3 s (a, pl, fd))))).2.2) lt ct), (21, .inr (.inl (1, ty))), (25, hD h), (26, s4 2 h), (27, s4 6 h), (28, s4 10 h)])
  refine J.run (sn_X4_readMember F) 2 [] (S' := (41, [(0, .ref 20), (1, .int (nI s)), (2, .int (rnv ty t ((blS 3 s (a, pl, fd)).1))), (3, .int (rnv ty t ((rnS ty t 1 4 (blS 3 s (a, pl, fd))).1))), (4, .int (rnv ty t ((rnS ty t 1 3 (rnS ty t 1 4 (blS 3 s (a, pl, fd)))).1)))], [.ref 20], [(20, rO t ((rnS ty t 0 99 (rnS ty t 1 3 (rnS ty t 1 4 (blS 3 s (a, pl, fd))))).1) ((rnS ty t 0 99 (rnS ty t 1 3 (rnS ty t 1 4 (blS 3 s (a, pl, fd))))).2.1) ((rnS ty t 0 99 (rnS ty t 1 3 (rnS ty t 1 4 (blS 3 s (a, pl, fd))))).2.2) lt ct), (21, .inr (.inl (1, ty))), (25, hD h), (26, s4 2 h), (27, s4 6 h), (28, s4 10 h)])) (ob := []) rfl (ob_n) ?_
  have hqq5 : (reS ty t (rnS ty t 0 99 (rnS ty t 1 3 (rnS ty t 1 4 (blS 3 s (a, pl, fd)))))).1 ≤ t := reS_le (by omega)
  refine J.callV F hJ lk_X4_85 im_X4_readEnd se_X4_readEnd (by decide +kernel) (c_rend ty hty t ht ((rnS ty t 0 99 (rnS ty t 1 3 (rnS ty t 1 4 (blS 3 s (a, pl, fd))))).1) (by omega) ((rnS ty t 0 99 (rnS ty t 1 3 (rnS ty t 1 4 (blS 3 s (a, pl, fd))))).2.1) ((rnS ty t 0 99 (rnS ty t 1 3 (rnS ty t 1 4 (blS 3 s (a, pl, fd))))).2.2) lt ct) (fun k => k) (by omega) [] rfl rfl rfl rfl rfl (by decide) rfl (show List.Nodup [20, 21] by decide) (fun r ws' hk hp => ?_)
  obtain ⟨rfl, rfl⟩ := hp
  show J x 5 (ad, 0, 0) (44, [(0, .ref 20), (1, .int (nI s)), (2, .int (rnv ty t ((blS 3 s (a, pl, fd)).1))), (3, .int (rnv ty t ((rnS ty t 1 4 (blS 3 s (a, pl, fd))).1))), (4, .int (rnv ty t ((rnS ty t 1 3 (rnS ty t 1 4 (blS 3 s (a, pl, fd)))).1)))], [], [(20, rO t ((reS ty t (rnS ty t 0 99 (rnS ty t 1 3 (rnS ty t 1 4 (blS 3 s (a, pl, fd)))))).1) ((reS ty t (rnS ty t 0 99 (rnS ty t 1 3 (rnS ty t 1 4 (blS 3 s (a, pl, fd)))))).2.1) ((reS ty t (rnS ty t 0 99 (rnS ty t 1 3 (rnS ty t 1 4 (blS 3 s (a, pl, fd)))))).2.2) lt ct), (21, .inr (.inl (1, ty))), (25, hD h), (26, s4 2 h), (27, s4 6 h), (28, s4 10 h)])
  refine J.run (sn_X4_readMember F) 3 [1] (S' := (62, [(0, .ref 20), (1, .int (nI s)), (2, .int (rnv ty t ((blS 3 s (a, pl, fd)).1))), (3, .int (rnv ty t ((rnS ty t 1 4 (blS 3 s (a, pl, fd))).1))), (4, .int (rnv ty t ((rnS ty t 1 3 (rnS ty t 1 4 (blS 3 s (a, pl, fd)))).1)))], [], [(20, rO t ((reS ty t (rnS ty t 0 99 (rnS ty t 1 3 (rnS ty t 1 4 (blS 3 s (a, pl, fd)))))).1) ((reS ty t (rnS ty t 0 99 (rnS ty t 1 3 (rnS ty t 1 4 (blS 3 s (a, pl, fd)))))).2.1) ((reS ty t (rnS ty t 0 99 (rnS ty t 1 3 (rnS ty t 1 4 (blS 3 s (a, pl, fd)))))).2.2) lt ct), (21, .inr (.inl (1, ty))), (25, hD h), (26, s4 2 h), (27, s4 6 h), (28, s4 10 h)])) (ob := [¬ ((reS ty t (rnS ty t 0 99 (rnS ty t 1 3 (rnS ty t 1 4 (blS 3 s (a, pl, fd)))))).2.2) = 0]) rfl (ob_c (h4nz) ob_n) ?_
  exact J.vret F hR (Nat.le_refl _) (Nat.le_refl _) rfl (by decide +kernel) ⟨rfl, keq [20, 21, 25, 26, 27, 28] rfl rfl, rfl, rfl⟩
