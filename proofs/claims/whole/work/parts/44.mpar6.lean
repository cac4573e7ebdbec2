theorem tso_end {ty : List Int32} {t s : Nat} (h : t ≤ s) : tso ty t s = 0 := by
  unfold tso
  rw [btw_out h, btw_out h, btw_out h, decide_eq_false (Nat.not_lt.mpr h)]
  rfl
theorem tso_nend {ty : List Int32} {t s : Nat} (h : s < t) : ¬ tso ty t s = 0 := by
  unfold tso
  rw [decide_eq_true h]
  cases btw ty t s 97 122 <;> cases btw ty t s 48 57 <;> cases btw ty t s 59 59 <;> decide
theorem hclr_lo {j : Nat} (h : j < 14) : gi [0, 0, 0, 0, 0, 0, 0, 0, 0, 0, 0, 0, 0, 0] j = hclr j := by
  match j, h with
  | 0, _ => exact rfl
  | 1, _ => exact rfl
  | 2, _ => exact rfl
  | 3, _ => exact rfl
  | 4, _ => exact rfl
  | 5, _ => exact rfl
  | 6, _ => exact rfl
  | 7, _ => exact rfl
  | 8, _ => exact rfl
  | 9, _ => exact rfl
  | 10, _ => exact rfl
  | 11, _ => exact rfl
  | 12, _ => exact rfl
  | 13, _ => exact rfl
theorem rnS_ge {ty : List Int32} {t : Nat} {lo hi : Int32} {q : Nat × Int32 × Int32} : q.1 ≤ (rnS ty t lo hi q).1 := Nat.le_trans (skq_ge _ _ _ _ _) (skq_ge _ _ _ _ _)
theorem rkS_ge {ty : List Int32} {t : Nat} {q : Nat × Int32 × Int32} : q.1 ≤ (rkS ty t q).1 := by rw [rkS_1]; exact Nat.le_trans (skq_ge _ _ _ _ _) (skq_ge _ _ _ _ _)
theorem reS_ge {ty : List Int32} {t : Nat} {q : Nat × Int32 × Int32} : q.1 ≤ (reS ty t q).1 := by
  unfold reS
  have := skq_ge ty t 32 32 q.1
  cases btw ty t (skq ty t 32 32 q.1) 59 59
  · exact this
  · exact Nat.le_succ_of_le this
theorem q0S_1 {c : Bool} {s : Nat} {q : Nat × Int32 × Int32} : (q0S c s q).1 = q.1 := by cases c <;> rfl
/-- a clause that is well takes its word at least -/
theorem cl_prog {ty : List Int32} {t : Nat} {C : Cs} (eC : C = ((C.1.1, (-1 : Int32), (0 : Int32)), (C.2.1.1, C.2.1.2), C.2.2)) (hst : C.1.1 < t) (hok : (clS ty t C).1.2.2 = 0) : C.1.1 < (clS ty t C).1.1 := by
  obtain ⟨⟨s, pl, fd⟩, ⟨lt, ct⟩, h⟩ := C
  have hw : ∀ i, 0 < jSL.getD i 0 → wdB ty s (skq ty t 97 122 s) i = true → s < skq ty t 97 122 s := by
    intro i hi hh
    cases hb : btw ty t s 97 122 with
    | true => exact skq_gt hb
    | false => rw [skq_eq (Nat.le_of_lt hst) hb, wdB_no hi] at hh; cases hh
  show s < (clS ty t ((s, pl, fd), (lt, ct), h)).1.1
  cases h0 : wdB ty s (skq ty t 97 122 s) 0 with
  | true =>
    rw [clS_0 h0]
    refine Nat.lt_of_lt_of_le (hw 0 (by decide) h0) ?_
    exact Nat.le_trans (Nat.le_trans (Nat.le_trans (Nat.le_of_eq (q0S_1 (c := decide (h 0 < 4)) (s := s) (q := (skq ty t 97 122 s, pl, fd))).symm) rnS_ge) (Nat.le_trans rnS_ge rnS_ge)) reS_ge
  | false =>
    cases h1 : wdB ty s (skq ty t 97 122 s) 1 with
    | true =>
      rw [clS_1 h0 h1]
      refine Nat.lt_of_lt_of_le (hw 1 (by decide) h1) ?_
      exact Nat.le_trans (Nat.le_trans (Nat.le_trans (Nat.le_of_eq (q0S_1 (c := decide (lt = 0)) (s := s) (q := (skq ty t 97 122 s, pl, fd))).symm) rkS_ge) (Nat.le_trans rnS_ge rnS_ge)) reS_ge
    | false =>
      cases h2 : wdB ty s (skq ty t 97 122 s) 2 with
      | true =>
        rw [clS_2 h0 h1 h2]
        refine Nat.lt_of_lt_of_le (hw 2 (by decide) h2) ?_
        exact Nat.le_trans (Nat.le_trans (Nat.le_of_eq (q0S_1 (c := decide (ct = 0)) (s := s) (q := (skq ty t 97 122 s, pl, fd))).symm) rnS_ge) reS_ge
      | false =>
        exfalso
        rw [clS_3 h0 h1 h2] at hok
        exact blS_nz (p := s) (q := (skq ty t 97 122 s, pl, fd)) (show ¬ (1 : Int32) = 0 by decide) hok
theorem bl0 {c : Int32} {p a : Nat} (h : (blS c p (a, (-1 : Int32), (0 : Int32))).2.2 = 0) : (blS c p (a, (-1 : Int32), (0 : Int32))).2 = ((-1 : Int32), (0 : Int32)) := by
  have hc : c = 0 := h
  rw [hc]
  rfl
theorem kp0_b {c : Int32} {p : Nat} {q : Nat × Int32 × Int32} (h : (blS c p q).2.2 = 0) : q.2.2 = 0 := by
  by_cases e : q.2.2 = 0
  · exact e
  · exact absurd h (bF_nz e)
theorem ok_b {c : Int32} {p : Nat} {q : Nat × Int32 × Int32} (h : (blS c p q).2.2 = 0) (hq : q.2.2 = 0 → q.2 = ((-1 : Int32), (0 : Int32))) : (blS c p q).2 = ((-1 : Int32), (0 : Int32)) := by
  obtain ⟨a, q2⟩ := q
  have h2 : q2 = ((-1 : Int32), (0 : Int32)) := hq (kp0_b h)
  rw [h2] at h ⊢
  exact bl0 h
theorem ok_r {ty : List Int32} {t : Nat} {lo hi : Int32} {q : Nat × Int32 × Int32} (hq : q.2.2 = 0 → q.2 = ((-1 : Int32), (0 : Int32))) : (rnS ty t lo hi q).2.2 = 0 → (rnS ty t lo hi q).2 = ((-1 : Int32), (0 : Int32)) := fun h => ok_b (q := (skq ty t 48 57 (skq ty t 32 32 q.1), q.2)) h hq
theorem ok_e {ty : List Int32} {t : Nat} {q : Nat × Int32 × Int32} (hq : q.2.2 = 0 → q.2 = ((-1 : Int32), (0 : Int32))) : (reS ty t q).2.2 = 0 → (reS ty t q).2 = ((-1 : Int32), (0 : Int32)) := by
  unfold reS
  cases btw ty t (skq ty t 32 32 q.1) 59 59
  · exact fun h => ok_b (q := (skq ty t 32 32 q.1, q.2)) h hq
  · exact hq
theorem ok_k {ty : List Int32} {t : Nat} {q : Nat × Int32 × Int32} (hq : q.2.2 = 0 → q.2 = ((-1 : Int32), (0 : Int32))) : (rkS ty t q).2.2 = 0 → (rkS ty t q).2 = ((-1 : Int32), (0 : Int32)) := by
  unfold rkS
  cases kdB ty (skq ty t 32 32 q.1) (skq ty t 97 122 (skq ty t 32 32 q.1))
  · exact fun h => ok_b (q := (skq ty t 97 122 (skq ty t 32 32 q.1), q.2)) h hq
  · exact hq
theorem ok_q {c : Bool} {s : Nat} {q : Nat × Int32 × Int32} (hq : q.2.2 = 0 → q.2 = ((-1 : Int32), (0 : Int32))) : (q0S c s q).2.2 = 0 → (q0S c s q).2 = ((-1 : Int32), (0 : Int32)) := by
  cases c
  · exact fun h => ok_b h hq
  · exact hq
theorem clS_ok {ty : List Int32} {t : Nat} {C : Cs} (eC : C = ((C.1.1, (-1 : Int32), (0 : Int32)), (C.2.1.1, C.2.1.2), C.2.2)) (hok : (clS ty t C).1.2.2 = 0) : (clS ty t C).1.2 = ((-1 : Int32), (0 : Int32)) := by
  rw [eC] at hok ⊢
  generalize C.1.1 = s at *
  generalize C.2.1.1 = lt at *
  generalize C.2.1.2 = ct at *
  generalize C.2.2 = h at *
  have hq : (skq ty t 97 122 s, (-1 : Int32), (0 : Int32)).2.2 = 0 → (skq ty t 97 122 s, (-1 : Int32), (0 : Int32)).2 = ((-1 : Int32), (0 : Int32)) := fun _ => rfl
  cases h0 : wdB ty s (skq ty t 97 122 s) 0 with
  | true =>
    rw [clS_0 h0] at hok ⊢
    exact ok_e (ok_r (ok_r (ok_r (ok_q hq)))) hok
  | false =>
    cases h1 : wdB ty s (skq ty t 97 122 s) 1 with
    | true =>
      rw [clS_1 h0 h1] at hok ⊢
      exact ok_e (ok_r (ok_r (ok_k (ok_q hq)))) hok
    | false =>
      cases h2 : wdB ty s (skq ty t 97 122 s) 2 with
      | true =>
        rw [clS_2 h0 h1 h2] at hok ⊢
        exact ok_e (ok_r (ok_q hq)) hok
      | false =>
        rw [clS_3 h0 h1 h2] at hok ⊢
        exact ok_b hok hq
set_option maxHeartbeats 4000000 in
set_option maxRecDepth 100000 in
theorem c_mreads (z : Nat → Int32) (tx ty : List Int32) (htx : tx.length = 400) (t : Nat) (ht : t ≤ 400) (hT : tyR tx ty t) (a : Nat) (so : Int32) (s sz : Nat) (fa ru co : Int32) (d9 : Nat → Int32) (r0 r1 r2 : Int32) : Ctr mk_X7_reads 7 [.ref 500] [(500, mP z t a so s sz fa ru co), (501, .inr (.inl (0, tx))), (503, .inr (.inl (0, [d9 0, d9 1, d9 2, d9 3, d9 4, d9 5, d9 6, d9 7, d9 8, d9 9, d9 10, d9 11, d9 12, d9 13]))), (504, .inr (.inl (0, [r0, r1, r2])))] (fun r u => ∃ (a' : Nat) (so' : Int32) (s' sz' : Nat) (fa' ru' co' : Int32) (dl' : List Int32) (x0' x1' x2' : Int32), dl'.length = 14 ∧ s' ≤ t ∧ ((rdE ty t).1.2.2 = 0 → (∀ k, k < 14 → gi dl' k = (rdE ty t).2.2 k) ∧ x0' = (rdE ty t).2.2 14 ∧ x1' = (rdE ty t).2.2 15 ∧ x2' = (rdE ty t).2.2 16) ∧ (¬ (rdE ty t).1.2.2 = 0 → fa' = (rdE ty t).1.2.2 ∧ nI s' = (rdE ty t).1.2.1) ∧ r = some (.int (b2i (decide ((rdE ty t).1.2.2 = 0)))) ∧ u = [(500, mP z t a' so' s' sz' fa' ru' co'), (501, .inr (.inl (0, tx))), (503, .inr (.inl (0, dl'))), (504, .inr (.inl (0, [x0', x1', x2'])))]) := by
  refine Ctr.of rfl (Nat.le_of_ble_eq_true rfl) ?_
  intro x ad F hJ hR
  have H : ∀ (n k : Nat) (C : Cs) (dl : List Int32), dl.length = 14 → C.1.2 = ((-1 : Int32), (0 : Int32)) → Cinv t C → t - C.1.1 ≤ n → t - C.1.1 ≤ k → (∀ j, j < 14 → gi dl j = C.2.2 j) → rdL ty t k C = (rdE ty t) → J x 2 (ad, 0, 0) (66, [(0, .ref 500)], [], [(500, mP z t (tke ty t C.1.1) (tso ty t C.1.1) C.1.1 (tke ty t C.1.1 - C.1.1) 0 C.2.1.1 C.2.1.2), (501, .inr (.inl (0, tx))), (503, .inr (.inl (0, dl))), (504, .inr (.inl (0, [C.2.2 14, C.2.2 15, C.2.2 16])))]) := by
    intro n
    induction n with
    | zero =>
      intro k C dl hdl hC hi hn hk hd hQ
      have hi1 := hi.1
      have e9 : C = (rdE ty t) := (rdL_f (fun z => absurd z.1 (by omega))).symm.trans hQ
      have e0 : (rdE ty t).1.2.2 = 0 := by rw [← e9]; exact congrArg Prod.snd hC
      have hso : tso ty t C.1.1 = 0 := tso_end (by omega)
      refine J.run (sn_X7_reads F) 4 [1] (S' := (90, [(0, .ref 500)], [.int 1], [(500, mP z t (tke ty t C.1.1) (tso ty t C.1.1) C.1.1 (tke ty t C.1.1 - C.1.1) 0 C.2.1.1 C.2.1.2), (501, .inr (.inl (0, tx))), (503, .inr (.inl (0, dl))), (504, .inr (.inl (0, [C.2.2 14, C.2.2 15, C.2.2 16])))])) (ob := [(tso ty t C.1.1) = 0]) rfl (ob_c hso ob_n) ?_
      exact J.iret F hR (Nat.le_refl _) (Nat.le_refl _) rfl rfl (by decide +kernel) ⟨rfl, keq [500, 501, 503, 504] rfl rfl, (tke ty t C.1.1), (tso ty t C.1.1), C.1.1, (tke ty t C.1.1 - C.1.1), 0, C.2.1.1, C.2.1.2, dl, (C.2.2 14), (C.2.2 15), (C.2.2 16), hdl, hi1, (fun _ => by rw [← e9]; exact ⟨hd, rfl, rfl, rfl⟩), (fun h0 => absurd e0 h0), by rw [b2d_t e0], rfl⟩
    | succ n ih =>
      intro k C dl hdl hC hi hn hk hd hQ
      have hi1 := hi.1
      have hfd : C.1.2.2 = 0 := congrArg Prod.snd hC
      by_cases hst : C.1.1 < t
      · have hso : ¬ tso ty t C.1.1 = 0 := tso_nend hst
        obtain ⟨k, rfl⟩ : ∃ k', k = k' + 1 := ⟨k - 1, by omega⟩
        rw [rdL_t hst hfd] at hQ
        have eC : C = ((C.1.1, (-1 : Int32), (0 : Int32)), (C.2.1.1, C.2.1.2), C.2.2) := by rw [← hC]
        have hi2 := clS_inv (ty := ty) hi
        refine J.run (sn_X7_reads F) 4 [0] (S' := (74, [(0, .ref 500)], [.ref 500], [(500, mP z t (tke ty t C.1.1) (tso ty t C.1.1) C.1.1 (tke ty t C.1.1 - C.1.1) 0 C.2.1.1 C.2.1.2), (501, .inr (.inl (0, tx))), (503, .inr (.inl (0, dl))), (504, .inr (.inl (0, [C.2.2 14, C.2.2 15, C.2.2 16])))])) (ob := [¬ (tso ty t C.1.1) = 0]) rfl (ob_c hso ob_n) ?_
        refine J.callVK F hJ lk_X7_147 im_X7_readsClause se_X7_readsClause (by decide +kernel) (c_mcl z tx ty htx t ht hT C.1.1 0 C.2.1.1 C.2.1.2 hi1 dl hdl C.2.2 hd hi.2.1 hi.2.2.1 hi.2.2.2) (fun k => k) (by decide) [] [500, 501, 503, 504] rfl rfl rfl rfl rfl rfl (by decide +kernel) rfl (by decide +kernel) (fun r ws' hk hp => ?_)
        obtain ⟨a1, so1, s1, sz1, fa1, ru1, co1, dl1, x0, x1, x2, g1, g2, g3, g4, rfl, rfl⟩ := hp
        show J x 2 (ad, 0, 0) (77, [(0, .ref 500)], [.int (b2i (decide ((clS ty t ((C.1.1, (-1 : Int32), (0 : Int32)), (C.2.1.1, C.2.1.2), C.2.2)).1.2.2 = 0)))], [(500, mP z t a1 so1 s1 sz1 fa1 ru1 co1), (501, .inr (.inl (0, tx))), (503, .inr (.inl (0, dl1))), (504, .inr (.inl (0, [x0, x1, x2])))])
        rw [← eC] at g3 g4
        rw [← eC]
        cases hdc : decide ((clS ty t C).1.2.2 = 0)
        · skip
          refine J.run (sn_X7_reads F) 2 [0] (S' := (81, [(0, .ref 500)], [.int 0], [(500, mP z t a1 so1 s1 sz1 fa1 ru1 co1), (501, .inr (.inl (0, tx))), (503, .inr (.inl (0, dl1))), (504, .inr (.inl (0, [x0, x1, x2])))])) (ob := [(0 : Int32) = 0]) rfl (ob_c (by decide) ob_n) ?_
          have nC := of_decide_eq_false hdc
          obtain ⟨rfl, e8⟩ := g4 nC
          have e9 : skC ty t (clS ty t C) = (rdE ty t) := (rdL_f (C := skC ty t (clS ty t C)) (fun z => nC z.2)).symm.trans hQ
          have e7 : (rdE ty t).1.2 = (clS ty t C).1.2 := by rw [← e9]; rfl
          have e6 : ¬ (rdE ty t).1.2.2 = 0 := by rw [e7]; exact nC
          exact J.iret F hR (Nat.le_refl _) (Nat.le_refl _) rfl rfl (by decide +kernel) ⟨rfl, keq [500, 501, 503, 504] rfl rfl, a1, so1, s1, sz1, (clS ty t C).1.2.2, ru1, co1, dl1, x0, x1, x2, g1, g2, (fun h0 => absurd h0 e6), (fun _ => by rw [e7]; exact ⟨rfl, e8⟩), by rw [b2d_f e6], rfl⟩
        · skip
          obtain ⟨rfl, rfl, rfl, rfl, k5, rfl, rfl, rfl⟩ := g3 (of_decide_eq_true hdc)
          have ha1 : (clS ty t C).1.1 ≤ t := hi2.1
          refine J.run (sn_X7_reads F) 2 [1] (S' := (83, [(0, .ref 500)], [.ref 500], [(500, mP z t ((clS ty t C).1.1) so1 s1 sz1 0 ((clS ty t C).2.1.1) ((clS ty t C).2.1.2)), (501, .inr (.inl (0, tx))), (503, .inr (.inl (0, dl1))), (504, .inr (.inl (0, [(clS ty t C).2.2 14, (clS ty t C).2.2 15, (clS ty t C).2.2 16])))])) (ob := [¬ (1 : Int32) = 0]) rfl (ob_c (by decide) ob_n) ?_
          have hq1 : (skq ty t 32 32 ((clS ty t C).1.1)) ≤ t := skq_le (by omega)
          have he1 : (tke ty t (skq ty t 32 32 ((clS ty t C).1.1))) ≤ t := tke_le hq1
          have hg1 : (skq ty t 32 32 ((clS ty t C).1.1)) ≤ (tke ty t (skq ty t 32 32 ((clS ty t C).1.1))) := tke_ge
          refine J.callVK F hJ lk_X7_101 im_X7_token se_X7_token (by decide +kernel) (c_token z tx ty htx t ht hT ((clS ty t C).1.1) so1 s1 sz1 0 ((clS ty t C).2.1.1) ((clS ty t C).2.1.2) (by omega)) (fun k => k) (by omega) [] [500, 501] rfl rfl rfl rfl rfl rfl (by decide +kernel) rfl (by decide +kernel) (fun r ws' hk hp => ?_)
          obtain ⟨rfl, rfl⟩ := hp
          show J x 2 (ad, 0, 0) (86, [(0, .ref 500)], [], [(500, mP z t (tke ty t (skq ty t 32 32 ((clS ty t C).1.1))) (tso ty t (skq ty t 32 32 ((clS ty t C).1.1))) (skq ty t 32 32 ((clS ty t C).1.1)) ((tke ty t (skq ty t 32 32 ((clS ty t C).1.1))) - (skq ty t 32 32 ((clS ty t C).1.1))) 0 ((clS ty t C).2.1.1) ((clS ty t C).2.1.2)), (501, .inr (.inl (0, tx))), (503, .inr (.inl (0, dl1))), (504, .inr (.inl (0, [(clS ty t C).2.2 14, (clS ty t C).2.2 15, (clS ty t C).2.2 16])))])
          refine J.run (sn_X7_reads F) 1 [] (S' := (66, [(0, .ref 500)], [], [(500, mP z t (tke ty t (skq ty t 32 32 ((clS ty t C).1.1))) (tso ty t (skq ty t 32 32 ((clS ty t C).1.1))) (skq ty t 32 32 ((clS ty t C).1.1)) ((tke ty t (skq ty t 32 32 ((clS ty t C).1.1))) - (skq ty t 32 32 ((clS ty t C).1.1))) 0 ((clS ty t C).2.1.1) ((clS ty t C).2.1.2)), (501, .inr (.inl (0, tx))), (503, .inr (.inl (0, dl1))), (504, .inr (.inl (0, [(clS ty t C).2.2 14, (clS ty t C).2.2 15, (clS ty t C).2.2 16])))])) (ob := []) rfl (ob_n) ?_
          exact ih k (skC ty t (clS ty t C)) dl1 g1 (clS_ok eC (of_decide_eq_true hdc)) (skC_inv hi2) (by have := cl_prog eC hst (of_decide_eq_true hdc); show t - skq ty t 32 32 (clS ty t C).1.1 ≤ n; have := skq_ge ty t 32 32 (clS ty t C).1.1; omega) (by have := cl_prog eC hst (of_decide_eq_true hdc); show t - skq ty t 32 32 (clS ty t C).1.1 ≤ k; have := skq_ge ty t 32 32 (clS ty t C).1.1; omega) k5 hQ
      · have e9 : C = (rdE ty t) := (rdL_f (fun z => hst z.1)).symm.trans hQ
        have e0 : (rdE ty t).1.2.2 = 0 := by rw [← e9]; exact hfd
        have hso : tso ty t C.1.1 = 0 := tso_end (by omega)
        refine J.run (sn_X7_reads F) 4 [1] (S' := (90, [(0, .ref 500)], [.int 1], [(500, mP z t (tke ty t C.1.1) (tso ty t C.1.1) C.1.1 (tke ty t C.1.1 - C.1.1) 0 C.2.1.1 C.2.1.2), (501, .inr (.inl (0, tx))), (503, .inr (.inl (0, dl))), (504, .inr (.inl (0, [C.2.2 14, C.2.2 15, C.2.2 16])))])) (ob := [(tso ty t C.1.1) = 0]) rfl (ob_c hso ob_n) ?_
        exact J.iret F hR (Nat.le_refl _) (Nat.le_refl _) rfl rfl (by decide +kernel) ⟨rfl, keq [500, 501, 503, 504] rfl rfl, (tke ty t C.1.1), (tso ty t C.1.1), C.1.1, (tke ty t C.1.1 - C.1.1), 0, C.2.1.1, C.2.1.2, dl, (C.2.2 14), (C.2.2 15), (C.2.2 16), hdl, hi1, (fun _ => by rw [← e9]; exact ⟨hd, rfl, rfl, rfl⟩), (fun h0 => absurd e0 h0), by rw [b2d_t e0], rfl⟩
  refine J.run (sn_X7_reads F) 10 [0, 0] (S' := (15, [(0, .ref 500), (1, .int 0)], [], [(500, mP z t a so s sz fa ru co), (501, .inr (.inl (0, tx))), (503, .inr (.inl (0, [0, d9 1, d9 2, d9 3, d9 4, d9 5, d9 6, d9 7, d9 8, d9 9, d9 10, d9 11, d9 12, d9 13]))), (504, .inr (.inl (0, [r0, r1, r2])))])) (ob := [¬ 14 ≤ (0 : Int32), ix 0 0 14]) rfl (ob_c (by decide) (ob_c (ix_of rfl) ob_n)) ?_
  refine J.run (sn_X7_reads F) 10 [0, 1] (S' := (15, [(0, .ref 500), (1, .int 1)], [], [(500, mP z t a so s sz fa ru co), (501, .inr (.inl (0, tx))), (503, .inr (.inl (0, [0, 0, d9 2, d9 3, d9 4, d9 5, d9 6, d9 7, d9 8, d9 9, d9 10, d9 11, d9 12, d9 13]))), (504, .inr (.inl (0, [r0, r1, r2])))])) (ob := [¬ 14 ≤ (1 : Int32), ix 1 1 14]) rfl (ob_c (by decide) (ob_c (ix_of rfl) ob_n)) ?_
  refine J.run (sn_X7_reads F) 10 [0, 2] (S' := (15, [(0, .ref 500), (1, .int 2)], [], [(500, mP z t a so s sz fa ru co), (501, .inr (.inl (0, tx))), (503, .inr (.inl (0, [0, 0, 0, d9 3, d9 4, d9 5, d9 6, d9 7, d9 8, d9 9, d9 10, d9 11, d9 12, d9 13]))), (504, .inr (.inl (0, [r0, r1, r2])))])) (ob := [¬ 14 ≤ (2 : Int32), ix 2 2 14]) rfl (ob_c (by decide) (ob_c (ix_of rfl) ob_n)) ?_
  refine J.run (sn_X7_reads F) 10 [0, 3] (S' := (15, [(0, .ref 500), (1, .int 3)], [], [(500, mP z t a so s sz fa ru co), (501, .inr (.inl (0, tx))), (503, .inr (.inl (0, [0, 0, 0, 0, d9 4, d9 5, d9 6, d9 7, d9 8, d9 9, d9 10, d9 11, d9 12, d9 13]))), (504, .inr (.inl (0, [r0, r1, r2])))])) (ob := [¬ 14 ≤ (3 : Int32), ix 3 3 14]) rfl (ob_c (by decide) (ob_c (ix_of rfl) ob_n)) ?_
  refine J.run (sn_X7_reads F) 10 [0, 4] (S' := (15, [(0, .ref 500), (1, .int 4)], [], [(500, mP z t a so s sz fa ru co), (501, .inr (.inl (0, tx))), (503, .inr (.inl (0, [0, 0, 0, 0, 0, d9 5, d9 6, d9 7, d9 8, d9 9, d9 10, d9 11, d9 12, d9 13]))), (504, .inr (.inl (0, [r0, r1, r2])))])) (ob := [¬ 14 ≤ (4 : Int32), ix 4 4 14]) rfl (ob_c (by decide) (ob_c (ix_of rfl) ob_n)) ?_
  refine J.run (sn_X7_reads F) 10 [0, 5] (S' := (15, [(0, .ref 500), (1, .int 5)], [], [(500, mP z t a so s sz fa ru co), (501, .inr (.inl (0, tx))), (503, .inr (.inl (0, [0, 0, 0, 0, 0, 0, d9 6, d9 7, d9 8, d9 9, d9 10, d9 11, d9 12, d9 13]))), (504, .inr (.inl (0, [r0, r1, r2])))])) (ob := [¬ 14 ≤ (5 : Int32), ix 5 5 14]) rfl (ob_c (by decide) (ob_c (ix_of rfl) ob_n)) ?_
  refine J.run (sn_X7_reads F) 10 [0, 6] (S' := (15, [(0, .ref 500), (1, .int 6)], [], [(500, mP z t a so s sz fa ru co), (501, .inr (.inl (0, tx))), (503, .inr (.inl (0, [0, 0, 0, 0, 0, 0, 0, d9 7, d9 8, d9 9, d9 10, d9 11, d9 12, d9 13]))), (504, .inr (.inl (0, [r0, r1, r2])))])) (ob := [¬ 14 ≤ (6 : Int32), ix 6 6 14]) rfl (ob_c (by decide) (ob_c (ix_of rfl) ob_n)) ?_
  refine J.run (sn_X7_reads F) 10 [0, 7] (S' := (15, [(0, .ref 500), (1, .int 7)], [], [(500, mP z t a so s sz fa ru co), (501, .inr (.inl (0, tx))), (503, .inr (.inl (0, [0, 0, 0, 0, 0, 0, 0, 0, d9 8, d9 9, d9 10, d9 11, d9 12, d9 13]))), (504, .inr (.inl (0, [r0, r1, r2])))])) (ob := [¬ 14 ≤ (7 : Int32), ix 7 7 14]) rfl (ob_c (by decide) (ob_c (ix_of rfl) ob_n)) ?_
  refine J.run (sn_X7_reads F) 10 [0, 8] (S' := (15, [(0, .ref 500), (1, .int 8)], [], [(500, mP z t a so s sz fa ru co), (501, .inr (.inl (0, tx))), (503, .inr (.inl (0, [0, 0, 0, 0, 0, 0, 0, 0, 0, d9 9, d9 10, d9 11, d9 12, d9 13]))), (504, .inr (.inl (0, [r0, r1, r2])))])) (ob := [¬ 14 ≤ (8 : Int32), ix 8 8 14]) rfl (ob_c (by decide) (ob_c (ix_of rfl) ob_n)) ?_
  refine J.run (sn_X7_reads F) 10 [0, 9] (S' := (15, [(0, .ref 500), (1, .int 9)], [], [(500, mP z t a so s sz fa ru co), (501, .inr (.inl (0, tx))), (503, .inr (.inl (0, [0, 0, 0, 0, 0, 0, 0, 0, 0, 0, d9 10, d9 11, d9 12, d9 13]))), (504, .inr (.inl (0, [r0, r1, r2])))])) (ob := [¬ 14 ≤ (9 : Int32), ix 9 9 14]) rfl (ob_c (by decide) (ob_c (ix_of rfl) ob_n)) ?_
  refine J.run (sn_X7_reads F) 10 [0, 10] (S' := (15, [(0, .ref 500), (1, .int 10)], [], [(500, mP z t a so s sz fa ru co), (501, .inr (.inl (0, tx))), (503, .inr (.inl (0, [0, 0, 0, 0, 0, 0, 0, 0, 0, 0, 0, d9 11, d9 12, d9 13]))), (504, .inr (.inl (0, [r0, r1, r2])))])) (ob := [¬ 14 ≤ (10 : Int32), ix 10 10 14]) rfl (ob_c (by decide) (ob_c (ix_of rfl) ob_n)) ?_
  refine J.run (sn_X7_reads F) 10 [0, 11] (S' := (15, [(0, .ref 500), (1, .int 11)], [], [(500, mP z t a so s sz fa ru co), (501, .inr (.inl (0, tx))), (503, .inr (.inl (0, [0, 0, 0, 0, 0, 0, 0, 0, 0, 0, 0, 0, d9 12, d9 13]))), (504, .inr (.inl (0, [r0, r1, r2])))])) (ob := [¬ 14 ≤ (11 : Int32), ix 11 11 14]) rfl (ob_c (by decide) (ob_c (ix_of rfl) ob_n)) ?_
  refine J.run (sn_X7_reads F) 10 [0, 12] (S' := (15, [(0, .ref 500), (1, .int 12)], [], [(500, mP z t a so s sz fa ru co), (501, .inr (.inl (0, tx))), (503, .inr (.inl (0, [0, 0, 0, 0, 0, 0, 0, 0, 0, 0, 0, 0, 0, d9 13]))), (504, .inr (.inl (0, [r0, r1, r2])))])) (ob := [¬ 14 ≤ (12 : Int32), ix 12 12 14]) rfl (ob_c (by decide) (ob_c (ix_of rfl) ob_n)) ?_
  refine J.run (sn_X7_reads F) 10 [0, 13] (S' := (15, [(0, .ref 500), (1, .int 13)], [], [(500, mP z t a so s sz fa ru co), (501, .inr (.inl (0, tx))), (503, .inr (.inl (0, [0, 0, 0, 0, 0, 0, 0, 0, 0, 0, 0, 0, 0, 0]))), (504, .inr (.inl (0, [r0, r1, r2])))])) (ob := [¬ 14 ≤ (13 : Int32), ix 13 13 14]) rfl (ob_c (by decide) (ob_c (ix_of rfl) ob_n)) ?_
  refine J.run (sn_X7_reads F) 10 [1, 0] (S' := (28, [(0, .ref 500), (1, .int 14)], [], [(500, mP z t a so s sz fa ru co), (501, .inr (.inl (0, tx))), (503, .inr (.inl (0, [0, 0, 0, 0, 0, 0, 0, 0, 0, 0, 0, 0, 0, 0]))), (504, .inr (.inl (0, [0, r1, r2])))])) (ob := [14 ≤ (14 : Int32), ix 0 0 3]) rfl (ob_c (by decide) (ob_c (ix_of rfl) ob_n)) ?_
  refine J.run (sn_X7_reads F) 10 [1, 2] (S' := (42, [(0, .ref 500), (1, .int 14)], [], [(500, mP z t a so s sz fa ru co), (501, .inr (.inl (0, tx))), (503, .inr (.inl (0, [0, 0, 0, 0, 0, 0, 0, 0, 0, 0, 0, 0, 0, 0]))), (504, .inr (.inl (0, [0, 5, 1])))])) (ob := [ix 1 1 3, ix 2 2 3]) rfl (ob_c (ix_of rfl) (ob_c (ix_of rfl) ob_n)) ?_
  refine J.run (sn_X7_reads F) 10 [] (S' := (58, [(0, .ref 500), (1, .int 14)], [.ref 500], [(500, .inl (7, [.ref 501, .int (nI t), .ref 502, .ref 503, .ref 504, .ref 505, .ref 506, .ref 507, .ref 508, .ref 509, .ref 510, .int (z 11), .ref 511, .ref 512, .int (z 14), .int (z 15), .int (z 16), .int (nI a), .int so, .int (nI s), .int (nI sz), .int 0, .int 0, .int 0, .ref 513, .ref 514, .int (z 26)])), (501, .inr (.inl (0, tx))), (503, .inr (.inl (0, [0, 0, 0, 0, 0, 0, 0, 0, 0, 0, 0, 0, 0, 0]))), (504, .inr (.inl (0, [0, 5, 1])))])) (ob := [(0 : Int32) = 0 ∨ (0 : Int32) = 1, (0 : Int32) = 0 ∨ (0 : Int32) = 1]) rfl (ob_c (by decide) (ob_c (by decide) ob_n)) ?_
  refine J.run (sn_X7_reads F) 3 [] (S' := (63, [(0, .ref 500), (1, .int 14)], [.ref 500], [(500, .inl (7, [.ref 501, .int (nI t), .ref 502, .ref 503, .ref 504, .ref 505, .ref 506, .ref 507, .ref 508, .ref 509, .ref 510, .int (z 11), .ref 511, .ref 512, .int (z 14), .int (z 15), .int (z 16), .int (nI 0), .int so, .int (nI s), .int (nI sz), .int 0, .int 0, .int 0, .ref 513, .ref 514, .int (z 26)])), (501, .inr (.inl (0, tx))), (503, .inr (.inl (0, [0, 0, 0, 0, 0, 0, 0, 0, 0, 0, 0, 0, 0, 0]))), (504, .inr (.inl (0, [0, 5, 1])))])) (ob := []) rfl (ob_n) ?_
  have hq1 : (skq ty t 32 32 0) ≤ t := skq_le (by omega)
  have he1 : (tke ty t (skq ty t 32 32 0)) ≤ t := tke_le hq1
  have hg1 : (skq ty t 32 32 0) ≤ (tke ty t (skq ty t 32 32 0)) := tke_ge
  refine J.callVK F hJ lk_X7_101 im_X7_token se_X7_token (by decide +kernel) (c_token z tx ty htx t ht hT 0 so s sz 0 0 0 (by omega)) (fun k => k) (by omega) [] [500, 501] rfl rfl rfl rfl rfl rfl (by decide +kernel) rfl (by decide +kernel) (fun r ws' hk hp => ?_)
  obtain ⟨rfl, rfl⟩ := hp
  show J x 2 (ad, 0, 0) (66, [(0, .ref 500), (1, .int 14)], [], [(500, mP z t (tke ty t (skq ty t 32 32 0)) (tso ty t (skq ty t 32 32 0)) (skq ty t 32 32 0) ((tke ty t (skq ty t 32 32 0)) - (skq ty t 32 32 0)) 0 0 0), (501, .inr (.inl (0, tx))), (503, .inr (.inl (0, [0, 0, 0, 0, 0, 0, 0, 0, 0, 0, 0, 0, 0, 0]))), (504, .inr (.inl (0, [0, 5, 1])))])
  refine J.lv (lv' := [(0, .ref 500)]) [0] rfl ?_
  exact J.cast (H 400 400 ((skq ty t 32 32 0, (-1 : Int32), (0 : Int32)), ((0 : Int32), (0 : Int32)), hclr) [0, 0, 0, 0, 0, 0, 0, 0, 0, 0, 0, 0, 0, 0] rfl rfl ⟨skq_le (Nat.zero_le t), Or.inl rfl, Or.inl rfl, Or.inl rfl⟩ (by omega) (by omega) (fun j hj => hclr_lo hj) rfl) rfl
