
set_option maxHeartbeats 4000000 in
set_option maxRecDepth 100000 in
theorem c_nulT (z : Nat → Int32) (tx ty : List Int32) (htx : tx.length = 400) (t : Nat) (ht : t ≤ 400) (hT : tyR tx ty t) (a : Nat) (so : Int32) (s sz : Nat) (fa ru co : Int32) (ha : a ≤ t) (dl : List Int32) (L p : Nat) (hdl : dl.length = L) (hp : p < L) (hL : L < 1000) (lo hi : Int32) (hc : rnC (rnv ty t a) lo hi (skq ty t 32 32 a) (skq ty t 48 57 (skq ty t 32 32 a)) = 0) : Ctr mk_X7_number 4 [.ref 500, .ref 504, .int (nI p), .int lo, .int hi] [(500, mP z t a so s sz fa ru co), (501, .inr (.inl (0, tx))), (504, .inr (.inl (0, dl)))] (fun r u => r = some (.int 1) ∧ u = [(500, mP z t (skq ty t 48 57 (skq ty t 32 32 a)) 2 (skq ty t 32 32 a) (skq ty t 48 57 (skq ty t 32 32 a) - (skq ty t 32 32 a)) fa ru co), (501, .inr (.inl (0, tx))), (504, .inr (.inl (0, dl.set p (rnv ty t a))))]) := by
  refine Ctr.of rfl (Nat.le_of_ble_eq_true rfl) ?_
  intro x ad F hJ hR
  have hs9 : (skq ty t 32 32 a) ≤ t := skq_le ha
  have hte : tke ty t (skq ty t 32 32 a) ≤ t := tke_le hs9
  have hrv : rnv ty t a = nmV ty (skq ty t 32 32 a) (m3 (skq ty t 48 57 (skq ty t 32 32 a) - (skq ty t 32 32 a))) := rfl
  generalize hV : rnv ty t a = vv at *
  generalize hS : (skq ty t 32 32 a) = q at *
  cases hd : btw ty t q 48 57
  · have hcc : rnC vv lo hi q (skq ty t 48 57 q) = 1 := by unfold rnC; rw [if_pos (skq_eq hs9 hd)]
    exact absurd (hcc.symm.trans hc) (by decide)
  · have hqt := btw_lt hd
    have hso : tso ty t q = 2 := tso_d hd
    have htk : tke ty t q = skq ty t 48 57 q := by unfold tke; rw [btw_dis (lo' := 97) (hi' := 122) hd (by decide), hd]; rfl
    have hgt : q < skq ty t 48 57 q := skq_gt hd
    have het : skq ty t 48 57 q ≤ t := skq_le hs9
    have hin : ∀ k, q ≤ k → k < skq ty t 48 57 q → bat tx t k = gi ty k := fun k h1 h2 => bgi hT (skq_in h1 h2) (by decide) (by decide)
    rw [htk] at hte
    generalize hE : skq ty t 48 57 q = e at *
    by_cases h4 : e - q < 4
    · rw [m3_lt h4] at hrv
      have HB : J x 7 (ad, 0, 0) (69, [(0, .ref 500), (1, .ref 504), (2, .int (nI p)), (3, .int lo), (4, .int hi), (5, .int (nmV ty q (e - q)))], [], [(500, mP z t e 2 q (e - q) fa ru co), (501, .inr (.inl (0, tx))), (504, .inr (.inl (0, dl)))]) := by
        rw [← hrv]
        cases hb : inB vv lo hi
        · have hcc : rnC vv lo hi q e = 2 := by unfold rnC; rw [if_neg (by omega), if_neg (by omega)]; exact inB_f hb
          exact absurd (hcc.symm.trans hc) (by decide)
        · have hcc : rnC vv lo hi q e = 0 := by unfold rnC; rw [if_neg (by omega), if_neg (by omega)]; exact inB_t hb
          refine J.run (sn_X7_number F) 7 [0] (S' := (82, [(0, .ref 500), (1, .ref 504), (2, .int (nI p)), (3, .int lo), (4, .int hi), (5, .int vv)], [.int hi, .int lo, .int vv], [(500, mP z t e 2 q (e - q) fa ru co), (501, .inr (.inl (0, tx))), (504, .inr (.inl (0, dl)))])) (ob := [¬ 3 < (nI (e - q))]) rfl (ob_c (n_nlt (a := 3) (by omega) (by omega) (by omega)) ob_n) ?_
          refine J.callS F hJ lk_X7_66 st_X7_in (by decide +kernel) (c_in vv lo hi) (fun k => k) (by omega) [] rfl rfl rfl (by decide +kernel) rfl (show List.Nodup [] by decide +kernel) (fun r ws' hk hp => ?_)
          obtain ⟨rfl, rfl⟩ := hp
          show J x 7 (ad, 0, 0) (85, [(0, .ref 500), (1, .ref 504), (2, .int (nI p)), (3, .int lo), (4, .int hi), (5, .int vv)], [.int (b2i (inB vv lo hi))], [(500, mP z t e 2 q (e - q) fa ru co), (501, .inr (.inl (0, tx))), (504, .inr (.inl (0, dl)))])
          rw [hb]
          refine J.run (sn_X7_number F) 6 [1, p] (S' := (100, [(0, .ref 500), (1, .ref 504), (2, .int (nI p)), (3, .int lo), (4, .int hi), (5, .int vv)], [.int 1], [(500, mP z t e 2 q (e - q) fa ru co), (501, .inr (.inl (0, tx))), (504, .inr (.inl (0, (dl.set p vv))))])) (ob := [¬ (1 : Int32) = 0, ix (nI p) p dl.length]) rfl (ob_c (by decide) (ob_c (ix_len hdl (ix_nI hp (by omega))) ob_n)) ?_
          exact J.iret F hR (Nat.le_refl _) (Nat.le_refl _) rfl rfl (by decide +kernel) ⟨rfl, keq [500, 501, 504] rfl rfl, rfl, rfl⟩
      have H : ∀ n k : Nat, k + n = e - q → J x 7 (ad, 0, 0) (24, [(0, .ref 500), (1, .ref 504), (2, .int (nI p)), (3, .int lo), (4, .int hi), (5, .int (nmV ty q k)), (6, .int (nI k))], [], [(500, mP z t e 2 q (e - q) fa ru co), (501, .inr (.inl (0, tx))), (504, .inr (.inl (0, dl)))]) := by
        intro n
        induction n with
        | zero =>
          intro k hk
          have ek : k = e - q := by omega
          subst ek
          refine J.run (sn_X7_number F) 4 [1] (S' := (69, [(0, .ref 500), (1, .ref 504), (2, .int (nI p)), (3, .int lo), (4, .int hi), (5, .int (nmV ty q (e - q))), (6, .int (nI (e - q)))], [], [(500, mP z t e 2 q (e - q) fa ru co), (501, .inr (.inl (0, tx))), (504, .inr (.inl (0, dl)))])) (ob := [(nI (e - q)) ≤ (nI (e - q))]) rfl (ob_c (n_le (by omega) (by omega) (Nat.le_refl _)) ob_n) ?_
          refine J.lv (lv' := [(0, .ref 500), (1, .ref 504), (2, .int (nI p)), (3, .int lo), (4, .int hi), (5, .int (nmV ty q (e - q)))]) [0, 1, 2, 3, 4, 5] rfl ?_
          exact HB
        | succ n ih =>
          intro k hk
          refine J.run (sn_X7_number F) 10 [0, 0] (S' := (45, [(0, .ref 500), (1, .ref 504), (2, .int (nI p)), (3, .int lo), (4, .int hi), (5, .int (nmV ty q k)), (6, .int (nI k))], [.int (nmV ty q k), .int 10], [(500, mP z t e 2 q (e - q) fa ru co), (501, .inr (.inl (0, tx))), (504, .inr (.inl (0, dl)))])) (ob := [¬ (nI (e - q)) ≤ (nI k), ¬ 4 ≤ (nI (e - q))]) rfl (ob_c (n_nle (by omega) (by omega) (by omega)) (ob_c (n_nle (a := 4) (by omega) (by omega) h4) ob_n)) ?_
          refine J.run (sn_X7_number F) 6 [] (S' := (54, [(0, .ref 500), (1, .ref 504), (2, .int (nI p)), (3, .int lo), (4, .int hi), (5, .int (nmV ty q k)), (6, .int (nI k))], [.int ((nI q) + (nI k)), .ref 500, .int (10 * (nmV ty q k))], [(500, mP z t e 2 q (e - q) fa ru co), (501, .inr (.inl (0, tx))), (504, .inr (.inl (0, dl)))])) (ob := []) rfl (ob_n) ?_
          rw [nI_pl q k]
          refine J.callV F hJ lk_X7_80 im_X7_byteAt se_X7_byteAt (by decide +kernel) (c_byte z tx ty htx t ht hT e 2 q (e - q) fa ru co (q + k) (by omega)) (fun k => k) (by omega) [.int (10 * (nmV ty q k))] rfl rfl rfl rfl rfl (by decide +kernel) rfl (show List.Nodup [500, 501] by decide +kernel) (fun r ws' hk hp => ?_)
          obtain ⟨rfl, rfl⟩ := hp
          show J x 7 (ad, 0, 0) (57, [(0, .ref 500), (1, .ref 504), (2, .int (nI p)), (3, .int lo), (4, .int hi), (5, .int (nmV ty q k)), (6, .int (nI k))], [.int (bat tx t (q + k)), .int (10 * (nmV ty q k))], [(500, mP z t e 2 q (e - q) fa ru co), (501, .inr (.inl (0, tx))), (504, .inr (.inl (0, dl)))])
          rw [hin (q + k) (by omega) (by omega)]
          refine J.run (sn_X7_number F) 6 [] (S' := (24, [(0, .ref 500), (1, .ref 504), (2, .int (nI p)), (3, .int lo), (4, .int hi), (5, .int (((10 * (nmV ty q k)) + (gi ty (q + k))) - 48)), (6, .int ((nI k) + 1))], [], [(500, mP z t e 2 q (e - q) fa ru co), (501, .inr (.inl (0, tx))), (504, .inr (.inl (0, dl)))])) (ob := []) rfl (ob_n) ?_
          exact J.cast (ih (k + 1) (by omega)) (by simp only [nmV_s, nI_1])
      refine J.run (sn_X7_number F) 1 [] (S' := (1, [(0, .ref 500), (1, .ref 504), (2, .int (nI p)), (3, .int lo), (4, .int hi)], [.ref 500], [(500, mP z t a so s sz fa ru co), (501, .inr (.inl (0, tx))), (504, .inr (.inl (0, dl)))])) (ob := []) rfl (ob_n) ?_
      refine J.callV F hJ lk_X7_101 im_X7_token se_X7_token (by decide +kernel) (c_token z tx ty htx t ht hT a so s sz fa ru co (by omega)) (fun k => k) (by omega) [] rfl rfl rfl rfl rfl (by decide +kernel) rfl (show List.Nodup [500, 501] by decide +kernel) (fun r ws' hk hp => ?_)
      obtain ⟨rfl, rfl⟩ := hp
      rw [hS, htk, hso]
      show J x 7 (ad, 0, 0) (4, [(0, .ref 500), (1, .ref 504), (2, .int (nI p)), (3, .int lo), (4, .int hi)], [], [(500, mP z t e 2 q (e - q) fa ru co), (501, .inr (.inl (0, tx))), (504, .inr (.inl (0, dl)))])
      refine J.run (sn_X7_number F) 8 [1] (S' := (24, [(0, .ref 500), (1, .ref 504), (2, .int (nI p)), (3, .int lo), (4, .int hi), (5, .int 0), (6, .int 0)], [], [(500, mP z t e 2 q (e - q) fa ru co), (501, .inr (.inl (0, tx))), (504, .inr (.inl (0, dl)))])) (ob := [(2 : Int32) = 2]) rfl (ob_c (by decide) ob_n) ?_
      exact H (e - q) 0 (by omega)
    · have hcc : rnC vv lo hi q e = 2 := by unfold rnC; rw [if_neg (by omega), if_pos (by omega)]
      exact absurd (hcc.symm.trans hc) (by decide)
set_option maxHeartbeats 4000000 in
set_option maxRecDepth 100000 in
theorem c_nulF (z : Nat → Int32) (tx ty : List Int32) (htx : tx.length = 400) (t : Nat) (ht : t ≤ 400) (hT : tyR tx ty t) (a : Nat) (so : Int32) (s sz : Nat) (fa ru co : Int32) (ha : a ≤ t) (dl : List Int32) (L p : Nat) (hdl : dl.length = L) (hp : p < L) (hL : L < 1000) (lo hi : Int32) (hc : ¬ rnC (rnv ty t a) lo hi (skq ty t 32 32 a) (skq ty t 48 57 (skq ty t 32 32 a)) = 0) : Ctr mk_X7_number 4 [.ref 500, .ref 504, .int (nI p), .int lo, .int hi] [(500, mP z t a so s sz fa ru co), (501, .inr (.inl (0, tx))), (504, .inr (.inl (0, dl)))] (fun r u => r = some (.int 0) ∧ u = [(500, mP z t (tke ty t (skq ty t 32 32 a)) (tso ty t (skq ty t 32 32 a)) (skq ty t 32 32 a) (tke ty t (skq ty t 32 32 a) - (skq ty t 32 32 a)) (rnC (rnv ty t a) lo hi (skq ty t 32 32 a) (skq ty t 48 57 (skq ty t 32 32 a))) ru co), (501, .inr (.inl (0, tx))), (504, .inr (.inl (0, dl)))]) := by
  refine Ctr.of rfl (Nat.le_of_ble_eq_true rfl) ?_
  intro x ad F hJ hR
  have hs9 : (skq ty t 32 32 a) ≤ t := skq_le ha
  have hte : tke ty t (skq ty t 32 32 a) ≤ t := tke_le hs9
  have hrv : rnv ty t a = nmV ty (skq ty t 32 32 a) (m3 (skq ty t 48 57 (skq ty t 32 32 a) - (skq ty t 32 32 a))) := rfl
  generalize hV : rnv ty t a = vv at *
  generalize hS : (skq ty t 32 32 a) = q at *
  cases hd : btw ty t q 48 57
  · have hcc : rnC vv lo hi q (skq ty t 48 57 q) = 1 := by unfold rnC; rw [if_pos (skq_eq hs9 hd)]
    refine J.run (sn_X7_number F) 1 [] (S' := (1, [(0, .ref 500), (1, .ref 504), (2, .int (nI p)), (3, .int lo), (4, .int hi)], [.ref 500], [(500, mP z t a so s sz fa ru co), (501, .inr (.inl (0, tx))), (504, .inr (.inl (0, dl)))])) (ob := []) rfl (ob_n) ?_
    refine J.callV F hJ lk_X7_101 im_X7_token se_X7_token (by decide +kernel) (c_token z tx ty htx t ht hT a so s sz fa ru co (by omega)) (fun k => k) (by omega) [] rfl rfl rfl rfl rfl (by decide +kernel) rfl (show List.Nodup [500, 501] by decide +kernel) (fun r ws' hk hp => ?_)
    obtain ⟨rfl, rfl⟩ := hp
    rw [hS]
    show J x 7 (ad, 0, 0) (4, [(0, .ref 500), (1, .ref 504), (2, .int (nI p)), (3, .int lo), (4, .int hi)], [], [(500, mP z t (tke ty t q) (tso ty t q) q ((tke ty t q) - q) fa ru co), (501, .inr (.inl (0, tx))), (504, .inr (.inl (0, dl)))])
    refine J.run (sn_X7_number F) 6 [0] (S' := (14, [(0, .ref 500), (1, .ref 504), (2, .int (nI p)), (3, .int lo), (4, .int hi)], [.int 1, .ref 500], [(500, mP z t (tke ty t q) (tso ty t q) q ((tke ty t q) - q) fa ru co), (501, .inr (.inl (0, tx))), (504, .inr (.inl (0, dl)))])) (ob := [¬ (tso ty t q) = 2]) rfl (ob_c (tso_nd hd) ob_n) ?_
    refine J.callV F hJ lk_X7_104 im_X7_wrong se_X7_wrong (by decide +kernel) (c_wrong z t (tke ty t q) (tso ty t q) q ((tke ty t q) - q) fa ru co 1) (fun k => k) (by omega) [] rfl rfl rfl rfl rfl (by decide +kernel) rfl (show List.Nodup [500] by decide +kernel) (fun r ws' hk hp => ?_)
    obtain ⟨rfl, rfl⟩ := hp
    show J x 7 (ad, 0, 0) (17, [(0, .ref 500), (1, .ref 504), (2, .int (nI p)), (3, .int lo), (4, .int hi)], [.int 0], [(500, mP z t (tke ty t q) (tso ty t q) q ((tke ty t q) - q) 1 ru co), (501, .inr (.inl (0, tx))), (504, .inr (.inl (0, dl)))])
    exact J.iret F hR (Nat.le_refl _) (Nat.le_refl _) rfl rfl (by decide +kernel) ⟨rfl, keq [500, 501, 504] rfl rfl, rfl, by rw [hcc]⟩
  · have hqt := btw_lt hd
    have hso : tso ty t q = 2 := tso_d hd
    have htk : tke ty t q = skq ty t 48 57 q := by unfold tke; rw [btw_dis (lo' := 97) (hi' := 122) hd (by decide), hd]; rfl
    have hgt : q < skq ty t 48 57 q := skq_gt hd
    have het : skq ty t 48 57 q ≤ t := skq_le hs9
    have hin : ∀ k, q ≤ k → k < skq ty t 48 57 q → bat tx t k = gi ty k := fun k h1 h2 => bgi hT (skq_in h1 h2) (by decide) (by decide)
    rw [htk] at hte
    generalize hE : skq ty t 48 57 q = e at *
    by_cases h4 : e - q < 4
    · rw [m3_lt h4] at hrv
      have HB : J x 7 (ad, 0, 0) (69, [(0, .ref 500), (1, .ref 504), (2, .int (nI p)), (3, .int lo), (4, .int hi), (5, .int (nmV ty q (e - q)))], [], [(500, mP z t e 2 q (e - q) fa ru co), (501, .inr (.inl (0, tx))), (504, .inr (.inl (0, dl)))]) := by
        rw [← hrv]
        cases hb : inB vv lo hi
        · have hcc : rnC vv lo hi q e = 2 := by unfold rnC; rw [if_neg (by omega), if_neg (by omega)]; exact inB_f hb
          refine J.run (sn_X7_number F) 7 [0] (S' := (82, [(0, .ref 500), (1, .ref 504), (2, .int (nI p)), (3, .int lo), (4, .int hi), (5, .int vv)], [.int hi, .int lo, .int vv], [(500, mP z t e 2 q (e - q) fa ru co), (501, .inr (.inl (0, tx))), (504, .inr (.inl (0, dl)))])) (ob := [¬ 3 < (nI (e - q))]) rfl (ob_c (n_nlt (a := 3) (by omega) (by omega) (by omega)) ob_n) ?_
          refine J.callS F hJ lk_X7_66 st_X7_in (by decide +kernel) (c_in vv lo hi) (fun k => k) (by omega) [] rfl rfl rfl (by decide +kernel) rfl (show List.Nodup [] by decide +kernel) (fun r ws' hk hp => ?_)
          obtain ⟨rfl, rfl⟩ := hp
          show J x 7 (ad, 0, 0) (85, [(0, .ref 500), (1, .ref 504), (2, .int (nI p)), (3, .int lo), (4, .int hi), (5, .int vv)], [.int (b2i (inB vv lo hi))], [(500, mP z t e 2 q (e - q) fa ru co), (501, .inr (.inl (0, tx))), (504, .inr (.inl (0, dl)))])
          rw [hb]
          refine J.run (sn_X7_number F) 3 [0] (S' := (90, [(0, .ref 500), (1, .ref 504), (2, .int (nI p)), (3, .int lo), (4, .int hi), (5, .int vv)], [.int 2, .ref 500], [(500, mP z t e 2 q (e - q) fa ru co), (501, .inr (.inl (0, tx))), (504, .inr (.inl (0, dl)))])) (ob := [(0 : Int32) = 0]) rfl (ob_c (by decide) ob_n) ?_
          refine J.callV F hJ lk_X7_104 im_X7_wrong se_X7_wrong (by decide +kernel) (c_wrong z t e 2 q (e - q) fa ru co 2) (fun k => k) (by omega) [] rfl rfl rfl rfl rfl (by decide +kernel) rfl (show List.Nodup [500] by decide +kernel) (fun r ws' hk hp => ?_)
          obtain ⟨rfl, rfl⟩ := hp
          show J x 7 (ad, 0, 0) (93, [(0, .ref 500), (1, .ref 504), (2, .int (nI p)), (3, .int lo), (4, .int hi), (5, .int vv)], [.int 0], [(500, mP z t e 2 q (e - q) 2 ru co), (501, .inr (.inl (0, tx))), (504, .inr (.inl (0, dl)))])
          exact J.iret F hR (Nat.le_refl _) (Nat.le_refl _) rfl rfl (by decide +kernel) ⟨rfl, keq [500, 501, 504] rfl rfl, rfl, by rw [hcc, htk, hso]⟩
        · have hcc : rnC vv lo hi q e = 0 := by unfold rnC; rw [if_neg (by omega), if_neg (by omega)]; exact inB_t hb
          exact absurd hcc hc
      have H : ∀ n k : Nat, k + n = e - q → J x 7 (ad, 0, 0) (24, [(0, .ref 500), (1, .ref 504), (2, .int (nI p)), (3, .int lo), (4, .int hi), (5, .int (nmV ty q k)), (6, .int (nI k))], [], [(500, mP z t e 2 q (e - q) fa ru co), (501, .inr (.inl (0, tx))), (504, .inr (.inl (0, dl)))]) := by
        intro n
        induction n with
        | zero =>
          intro k hk
          have ek : k = e - q := by omega
          subst ek
          refine J.run (sn_X7_number F) 4 [1] (S' := (69, [(0, .ref 500), (1, .ref 504), (2, .int (nI p)), (3, .int lo), (4, .int hi), (5, .int (nmV ty q (e - q))), (6, .int (nI (e - q)))], [], [(500, mP z t e 2 q (e - q) fa ru co), (501, .inr (.inl (0, tx))), (504, .inr (.inl (0, dl)))])) (ob := [(nI (e - q)) ≤ (nI (e - q))]) rfl (ob_c (n_le (by omega) (by omega) (Nat.le_refl _)) ob_n) ?_
          refine J.lv (lv' := [(0, .ref 500), (1, .ref 504), (2, .int (nI p)), (3, .int lo), (4, .int hi), (5, .int (nmV ty q (e - q)))]) [0, 1, 2, 3, 4, 5] rfl ?_
          exact HB
        | succ n ih =>
          intro k hk
          refine J.run (sn_X7_number F) 10 [0, 0] (S' := (45, [(0, .ref 500), (1, .ref 504), (2, .int (nI p)), (3, .int lo), (4, .int hi), (5, .int (nmV ty q k)), (6, .int (nI k))], [.int (nmV ty q k), .int 10], [(500, mP z t e 2 q (e - q) fa ru co), (501, .inr (.inl (0, tx))), (504, .inr (.inl (0, dl)))])) (ob := [¬ (nI (e - q)) ≤ (nI k), ¬ 4 ≤ (nI (e - q))]) rfl (ob_c (n_nle (by omega) (by omega) (by omega)) (ob_c (n_nle (a := 4) (by omega) (by omega) h4) ob_n)) ?_
          refine J.run (sn_X7_number F) 6 [] (S' := (54, [(0, .ref 500), (1, .ref 504), (2, .int (nI p)), (3, .int lo), (4, .int hi), (5, .int (nmV ty q k)), (6, .int (nI k))], [.int ((nI q) + (nI k)), .ref 500, .int (10 * (nmV ty q k))], [(500, mP z t e 2 q (e - q) fa ru co), (501, .inr (.inl (0, tx))), (504, .inr (.inl (0, dl)))])) (ob := []) rfl (ob_n) ?_
          rw [nI_pl q k]
          refine J.callV F hJ lk_X7_80 im_X7_byteAt se_X7_byteAt (by decide +kernel) (c_byte z tx ty htx t ht hT e 2 q (e - q) fa ru co (q + k) (by omega)) (fun k => k) (by omega) [.int (10 * (nmV ty q k))] rfl rfl rfl rfl rfl (by decide +kernel) rfl (show List.Nodup [500, 501] by decide +kernel) (fun r ws' hk hp => ?_)
          obtain ⟨rfl, rfl⟩ := hp
          show J x 7 (ad, 0, 0) (57, [(0, .ref 500), (1, .ref 504), (2, .int (nI p)), (3, .int lo), (4, .int hi), (5, .int (nmV ty q k)), (6, .int (nI k))], [.int (bat tx t (q + k)), .int (10 * (nmV ty q k))], [(500, mP z t e 2 q (e - q) fa ru co), (501, .inr (.inl (0, tx))), (504, .inr (.inl (0, dl)))])
          rw [hin (q + k) (by omega) (by omega)]
          refine J.run (sn_X7_number F) 6 [] (S' := (24, [(0, .ref 500), (1, .ref 504), (2, .int (nI p)), (3, .int lo), (4, .int hi), (5, .int (((10 * (nmV ty q k)) + (gi ty (q + k))) - 48)), (6, .int ((nI k) + 1))], [], [(500, mP z t e 2 q (e - q) fa ru co), (501, .inr (.inl (0, tx))), (504, .inr (.inl (0, dl)))])) (ob := []) rfl (ob_n) ?_
          exact J.cast (ih (k + 1) (by omega)) (by simp only [nmV_s, nI_1])
      refine J.run (sn_X7_number F) 1 [] (S' := (1, [(0, .ref 500), (1, .ref 504), (2, .int (nI p)), (3, .int lo), (4, .int hi)], [.ref 500], [(500, mP z t a so s sz fa ru co), (501, .inr (.inl (0, tx))), (504, .inr (.inl (0, dl)))])) (ob := []) rfl (ob_n) ?_
      refine J.callV F hJ lk_X7_101 im_X7_token se_X7_token (by decide +kernel) (c_token z tx ty htx t ht hT a so s sz fa ru co (by omega)) (fun k => k) (by omega) [] rfl rfl rfl rfl rfl (by decide +kernel) rfl (show List.Nodup [500, 501] by decide +kernel) (fun r ws' hk hp => ?_)
      obtain ⟨rfl, rfl⟩ := hp
      rw [hS, htk, hso]
      show J x 7 (ad, 0, 0) (4, [(0, .ref 500), (1, .ref 504), (2, .int (nI p)), (3, .int lo), (4, .int hi)], [], [(500, mP z t e 2 q (e - q) fa ru co), (501, .inr (.inl (0, tx))), (504, .inr (.inl (0, dl)))])
      refine J.run (sn_X7_number F) 8 [1] (S' := (24, [(0, .ref 500), (1, .ref 504), (2, .int (nI p)), (3, .int lo), (4, .int hi), (5, .int 0), (6, .int 0)], [], [(500, mP z t e 2 q (e - q) fa ru co), (501, .inr (.inl (0, tx))), (504, .inr (.inl (0, dl)))])) (ob := [(2 : Int32) = 2]) rfl (ob_c (by decide) ob_n) ?_
      exact H (e - q) 0 (by omega)
    · have hcc : rnC vv lo hi q e = 2 := by unfold rnC; rw [if_neg (by omega), if_pos (by omega)]
      refine J.run (sn_X7_number F) 1 [] (S' := (1, [(0, .ref 500), (1, .ref 504), (2, .int (nI p)), (3, .int lo), (4, .int hi)], [.ref 500], [(500, mP z t a so s sz fa ru co), (501, .inr (.inl (0, tx))), (504, .inr (.inl (0, dl)))])) (ob := []) rfl (ob_n) ?_
      refine J.callV F hJ lk_X7_101 im_X7_token se_X7_token (by decide +kernel) (c_token z tx ty htx t ht hT a so s sz fa ru co (by omega)) (fun k => k) (by omega) [] rfl rfl rfl rfl rfl (by decide +kernel) rfl (show List.Nodup [500, 501] by decide +kernel) (fun r ws' hk hp => ?_)
      obtain ⟨rfl, rfl⟩ := hp
      rw [hS, htk, hso]
      show J x 7 (ad, 0, 0) (4, [(0, .ref 500), (1, .ref 504), (2, .int (nI p)), (3, .int lo), (4, .int hi)], [], [(500, mP z t e 2 q (e - q) fa ru co), (501, .inr (.inl (0, tx))), (504, .inr (.inl (0, dl)))])
      refine J.run (sn_X7_number F) 10 [1] (S' := (27, [(0, .ref 500), (1, .ref 504), (2, .int (nI p)), (3, .int lo), (4, .int hi), (5, .int 0), (6, .int 0)], [.ref 500, .int 0], [(500, mP z t e 2 q (e - q) fa ru co), (501, .inr (.inl (0, tx))), (504, .inr (.inl (0, dl)))])) (ob := [(2 : Int32) = 2]) rfl (ob_c (by decide) ob_n) ?_
      refine J.run (sn_X7_number F) 10 [0, 1, 1] (S' := (88, [(0, .ref 500), (1, .ref 504), (2, .int (nI p)), (3, .int lo), (4, .int hi), (5, .int 0), (6, .int 0)], [], [(500, mP z t e 2 q (e - q) fa ru co), (501, .inr (.inl (0, tx))), (504, .inr (.inl (0, dl)))])) (ob := [¬ (nI (e - q)) ≤ 0, 4 ≤ (nI (e - q)), 3 < (nI (e - q))]) rfl (ob_c (n_nle (b := 0) (by omega) (by omega) (by omega)) (ob_c (n_le (a := 4) (by omega) (by omega) (by omega)) (ob_c (n_lt (a := 3) (by omega) (by omega) (by omega)) ob_n))) ?_
      refine J.run (sn_X7_number F) 2 [] (S' := (90, [(0, .ref 500), (1, .ref 504), (2, .int (nI p)), (3, .int lo), (4, .int hi), (5, .int 0), (6, .int 0)], [.int 2, .ref 500], [(500, mP z t e 2 q (e - q) fa ru co), (501, .inr (.inl (0, tx))), (504, .inr (.inl (0, dl)))])) (ob := []) rfl (ob_n) ?_
      refine J.callV F hJ lk_X7_104 im_X7_wrong se_X7_wrong (by decide +kernel) (c_wrong z t e 2 q (e - q) fa ru co 2) (fun k => k) (by omega) [] rfl rfl rfl rfl rfl (by decide +kernel) rfl (show List.Nodup [500] by decide +kernel) (fun r ws' hk hp => ?_)
      obtain ⟨rfl, rfl⟩ := hp
      show J x 7 (ad, 0, 0) (93, [(0, .ref 500), (1, .ref 504), (2, .int (nI p)), (3, .int lo), (4, .int hi), (5, .int 0), (6, .int 0)], [.int 0], [(500, mP z t e 2 q (e - q) 2 ru co), (501, .inr (.inl (0, tx))), (504, .inr (.inl (0, dl)))])
      exact J.iret F hR (Nat.le_refl _) (Nat.le_refl _) rfl rfl (by decide +kernel) ⟨rfl, keq [500, 501, 504] rfl rfl, rfl, by rw [hcc, htk, hso]⟩
