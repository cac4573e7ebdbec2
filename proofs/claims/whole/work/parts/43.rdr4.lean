def skC (ty : List Int32) (t : Nat) (C : Cs) : Cs := ((skq ty t 32 32 C.1.1, C.1.2), C.2)
def rdL (ty : List Int32) (t : Nat) : Nat → Cs → Cs
  | 0, C => C
  | k + 1, C => if C.1.1 < t ∧ C.1.2.2 = 0 then rdL ty t k (skC ty t (clS ty t C)) else C
def rdE (ty : List Int32) (t : Nat) : Cs := rdL ty t 400 (skC ty t ((0, (-1 : Int32), (0 : Int32)), ((0 : Int32), (0 : Int32)), hclr))
theorem rdL_t {ty : List Int32} {t k : Nat} {C : Cs} (h1 : C.1.1 < t) (h2 : C.1.2.2 = 0) : rdL ty t (k + 1) C = rdL ty t k (skC ty t (clS ty t C)) := if_pos ⟨h1, h2⟩
theorem rdL_f {ty : List Int32} {t k : Nat} {C : Cs} (h : ¬ (C.1.1 < t ∧ C.1.2.2 = 0)) : rdL ty t k C = C := by
  cases k with
  | zero => rfl
  | succ k => exact if_neg h
def in04 (x : Int32) : Prop := x = 0 ∨ x = 1 ∨ x = 2 ∨ x = 3 ∨ x = 4
def in01 (x : Int32) : Prop := x = 0 ∨ x = 1
def Cinv (t : Nat) (C : Cs) : Prop := C.1.1 ≤ t ∧ in04 (C.2.2 0) ∧ in01 C.2.1.1 ∧ in01 C.2.1.2
theorem meS_le {ty : List Int32} {t s : Nat} {q : Nat × Int32 × Int32} {h : Nat → Int32} (hq : q.1 ≤ t) : (meS ty t s q h).1 ≤ t := by
  unfold meS
  refine reS_le (rnS_le (rnS_le (rnS_le ?_)))
  cases decide (h 0 < 4) <;> exact hq
theorem laS_le {ty : List Int32} {t s : Nat} {lt : Int32} {q : Nat × Int32 × Int32} (hq : q.1 ≤ t) : (laS ty t s lt q).1 ≤ t := by
  unfold laS
  refine reS_le (rnS_le (rnS_le (rkS_le ?_)))
  cases decide (lt = 0) <;> exact hq
theorem coS_le {ty : List Int32} {t s : Nat} {ct : Int32} {q : Nat × Int32 × Int32} (hq : q.1 ≤ t) : (coS ty t s ct q).1 ≤ t := by
  unfold coS
  refine reS_le (rnS_le ?_)
  cases decide (ct = 0) <;> exact hq
theorem seatH_0 {h : Nat → Int32} {x y z : Int32} (h0 : in04 (h 0)) : in04 (seatH h x y z 0) := by
  unfold seatH
  by_cases e0 : h 0 = 0
  · rw [if_pos e0]; exact Or.inr (Or.inl rfl)
  · by_cases e1 : h 0 = 1
    · rw [if_neg e0, if_pos e1]; exact Or.inr (Or.inr (Or.inl rfl))
    · by_cases e2 : h 0 = 2
      · rw [if_neg e0, if_neg e1, if_pos e2]; exact Or.inr (Or.inr (Or.inr (Or.inl rfl)))
      · by_cases e3 : h 0 = 3
        · rw [if_neg e0, if_neg e1, if_neg e2, if_pos e3]; exact Or.inr (Or.inr (Or.inr (Or.inr rfl)))
        · rw [if_neg e0, if_neg e1, if_neg e2, if_neg e3]; exact h0
theorem clS_inv {ty : List Int32} {t : Nat} {C : Cs} (h : Cinv t C) : Cinv t (clS ty t C) := by
  obtain ⟨⟨s, pl, fd⟩, ⟨lt, ct⟩, hh⟩ := C
  obtain ⟨i1, i2, i3, i4⟩ := h
  have he : skq ty t 97 122 s ≤ t := skq_le i1
  cases h0 : wdB ty s (skq ty t 97 122 s) 0 with
  | true =>
    rw [clS_0 h0]
    refine ⟨meS_le he, ?_, i3, i4⟩
    show in04 (meH ty t s (skq ty t 97 122 s, pl, fd) hh 0)
    unfold meH
    by_cases e : (meS ty t s (skq ty t 97 122 s, pl, fd) hh).2.2 = 0
    · rw [if_pos e]; exact seatH_0 i2
    · rw [if_neg e]; exact i2
  | false =>
    cases h1 : wdB ty s (skq ty t 97 122 s) 1 with
    | true => rw [clS_1 h0 h1]; exact ⟨laS_le he, i2, Or.inr rfl, i4⟩
    | false =>
      cases h2 : wdB ty s (skq ty t 97 122 s) 2 with
      | true => rw [clS_2 h0 h1 h2]; exact ⟨coS_le he, i2, i3, Or.inr rfl⟩
      | false => rw [clS_3 h0 h1 h2]; exact ⟨he, i2, i3, i4⟩
theorem skC_inv {ty : List Int32} {t : Nat} {C : Cs} (h : Cinv t C) : Cinv t (skC ty t C) := ⟨skq_le h.1, h.2⟩
set_option maxHeartbeats 4000000 in
set_option maxRecDepth 100000 in
theorem c_rall (ty : List Int32) (hty : ty.length = 400) (t : Nat) (ht : t ≤ 400) (a0 : Nat) (pl fd lt ct : Int32) (h0 : Nat → Int32) : Ctr mk_X4_readAll 10 [.ref 20] [(20, rO t a0 pl fd lt ct), (21, .inr (.inl (1, ty))), (25, hD h0), (26, s4 2 h0), (27, s4 6 h0), (28, s4 10 h0)] (fun r u => r = some (.int (rdE ty t).1.2.2) ∧ u = [(20, rO 0 ((rdE ty t).1.1) ((rdE ty t).1.2.1) ((rdE ty t).1.2.2) ((rdE ty t).2.1.1) ((rdE ty t).2.1.2)), (21, .inr (.inl (1, ty))), (25, hD ((rdE ty t).2.2)), (26, s4 2 ((rdE ty t).2.2)), (27, s4 6 ((rdE ty t).2.2)), (28, s4 10 ((rdE ty t).2.2))]) := by
  refine Ctr.of rfl (Nat.le_of_ble_eq_true rfl) ?_
  intro x ad F hJ hR
  have HE : ∀ iv : Int32, J x 2 (ad, 0, 0) (77, [(0, .ref 20), (1, .int iv)], [], [(20, rO t ((rdE ty t).1.1) ((rdE ty t).1.2.1) ((rdE ty t).1.2.2) ((rdE ty t).2.1.1) ((rdE ty t).2.1.2)), (21, .inr (.inl (1, ty))), (25, hD ((rdE ty t).2.2)), (26, s4 2 ((rdE ty t).2.2)), (27, s4 6 ((rdE ty t).2.2)), (28, s4 10 ((rdE ty t).2.2))]) := by
    intro iv
    refine J.run (sn_X4_readAll F) 5 [] (S' := (86, [(0, .ref 20), (1, .int iv)], [.int ((rdE ty t).1.2.2)], [(20, .inl (4, [.ref 25, .int 0, .int ((rdE ty t).1.2.1), .ref 21, .int (nI (rdE ty t).1.1), .int ((rdE ty t).1.2.2), .int ((rdE ty t).2.1.1), .int ((rdE ty t).2.1.2)])), (21, .inr (.inl (1, ty))), (25, hD ((rdE ty t).2.2)), (26, s4 2 ((rdE ty t).2.2)), (27, s4 6 ((rdE ty t).2.2)), (28, s4 10 ((rdE ty t).2.2))])) (ob := []) rfl (ob_n) ?_
    exact J.iret F hR (Nat.le_refl _) (Nat.le_refl _) rfl rfl (by decide +kernel) ⟨rfl, keq [20, 21, 25, 26, 27, 28] rfl rfl, rfl, rfl⟩
  have H : ∀ (k i : Nat) (C : Cs), i + k = 400 → Cinv t C → rdL ty t k C = (rdE ty t) → J x 2 (ad, 0, 0) (38, [(0, .ref 20), (1, .int (nI i))], [], [(20, rO t C.1.1 C.1.2.1 C.1.2.2 C.2.1.1 C.2.1.2), (21, .inr (.inl (1, ty))), (25, hD C.2.2), (26, s4 2 C.2.2), (27, s4 6 C.2.2), (28, s4 10 C.2.2)]) := by
    intro k
    induction k with
    | zero =>
      intro i C hik hi hQ
      have e9 : C = (rdE ty t) := hQ
      refine J.run (sn_X4_readAll F) 3 [1] (S' := (77, [(0, .ref 20), (1, .int (nI i))], [], [(20, rO t C.1.1 C.1.2.1 C.1.2.2 C.2.1.1 C.2.1.2), (21, .inr (.inl (1, ty))), (25, hD C.2.2), (26, s4 2 C.2.2), (27, s4 6 C.2.2), (28, s4 10 C.2.2)])) (ob := [400 ≤ (nI i)]) rfl (ob_c (n_le (a := 400) (by omega) (by omega) (by omega)) ob_n) ?_
      rw [e9]
      exact HE _
    | succ k ih =>
      intro i C hik hi hQ
      have hi1 := hi.1
      by_cases hat : C.1.1 < t
      · by_cases hfd : C.1.2.2 = 0
        · have hi2 : (clS ty t C).1.1 ≤ t := (clS_inv hi).1
          refine J.run (sn_X4_readAll F) 10 [0, 0] (S' := (60, [(0, .ref 20), (1, .int (nI i))], [.int C.1.2.2], [(20, rO t C.1.1 C.1.2.1 C.1.2.2 C.2.1.1 C.2.1.2), (21, .inr (.inl (1, ty))), (25, hD C.2.2), (26, s4 2 C.2.2), (27, s4 6 C.2.2), (28, s4 10 C.2.2)])) (ob := [¬ 400 ≤ (nI i), ¬ (nI t) ≤ (nI C.1.1)]) rfl (ob_c (n_nle (a := 400) (by omega) (by omega) (by omega)) (ob_c (n_nle (by omega) (by omega) hat) ob_n)) ?_
          refine J.run (sn_X4_readAll F) 2 [0] (S' := (64, [(0, .ref 20), (1, .int (nI i))], [.ref 20], [(20, rO t C.1.1 C.1.2.1 C.1.2.2 C.2.1.1 C.2.1.2), (21, .inr (.inl (1, ty))), (25, hD C.2.2), (26, s4 2 C.2.2), (27, s4 6 C.2.2), (28, s4 10 C.2.2)])) (ob := [C.1.2.2 = 0]) rfl (ob_c hfd ob_n) ?_
          refine J.callVK F hJ lk_X4_48 im_X4_readClause se_X4_readClause (by decide +kernel) (c_rcl ty hty t ht C.1.1 hi.1 C.1.2.1 C.1.2.2 C.2.1.1 C.2.1.2 C.2.2 hi.2.1 hi.2.2.1 hi.2.2.2) (fun k => k) (by omega) [] [20, 21, 25, 26, 27, 28] rfl rfl rfl rfl rfl rfl (by decide +kernel) rfl (by decide +kernel) (fun r ws' hk hp => ?_)
          obtain ⟨rfl, rfl⟩ := hp
          show J x 2 (ad, 0, 0) (67, [(0, .ref 20), (1, .int (nI i))], [], [(20, rO t ((clS ty t C).1.1) ((clS ty t C).1.2.1) ((clS ty t C).1.2.2) ((clS ty t C).2.1.1) ((clS ty t C).2.1.2)), (21, .inr (.inl (1, ty))), (25, hD ((clS ty t C).2.2)), (26, s4 2 ((clS ty t C).2.2)), (27, s4 6 ((clS ty t C).2.2)), (28, s4 10 ((clS ty t C).2.2))])
          refine J.run (sn_X4_readAll F) 1 [] (S' := (68, [(0, .ref 20), (1, .int (nI i))], [.ref 20], [(20, rO t ((clS ty t C).1.1) ((clS ty t C).1.2.1) ((clS ty t C).1.2.2) ((clS ty t C).2.1.1) ((clS ty t C).2.1.2)), (21, .inr (.inl (1, ty))), (25, hD ((clS ty t C).2.2)), (26, s4 2 ((clS ty t C).2.2)), (27, s4 6 ((clS ty t C).2.2)), (28, s4 10 ((clS ty t C).2.2))])) (ob := []) rfl (ob_n) ?_
          have hsk1 : (skq ty t 32 32 ((clS ty t C).1.1)) ≤ t := skq_le (by omega)
          have hsg1 := skq_ge ty t 32 32 ((clS ty t C).1.1)
          refine J.callVK F hJ lk_X4_45 im_X4_skipBlanks se_X4_skipBlanks (by decide +kernel) (c_skipBlanks ty hty t ht ((clS ty t C).1.1) (by omega) ((clS ty t C).1.2.1) ((clS ty t C).1.2.2) ((clS ty t C).2.1.1) ((clS ty t C).2.1.2)) (fun k => k) (by omega) [] [20, 21] rfl rfl rfl rfl rfl rfl (by decide +kernel) rfl (by decide +kernel) (fun r ws' hk hp => ?_)
          obtain ⟨rfl, rfl⟩ := hp
          show J x 2 (ad, 0, 0) (71, [(0, .ref 20), (1, .int (nI i))], [], [(20, rO t (skq ty t 32 32 ((clS ty t C).1.1)) ((clS ty t C).1.2.1) ((clS ty t C).1.2.2) ((clS ty t C).2.1.1) ((clS ty t C).2.1.2)), (21, .inr (.inl (1, ty))), (25, hD ((clS ty t C).2.2)), (26, s4 2 ((clS ty t C).2.2)), (27, s4 6 ((clS ty t C).2.2)), (28, s4 10 ((clS ty t C).2.2))])
          refine J.run (sn_X4_readAll F) 2 [] (S' := (38, [(0, .ref 20), (1, .int ((nI i) + 1))], [], [(20, rO t (skq ty t 32 32 ((clS ty t C).1.1)) ((clS ty t C).1.2.1) ((clS ty t C).1.2.2) ((clS ty t C).2.1.1) ((clS ty t C).2.1.2)), (21, .inr (.inl (1, ty))), (25, hD ((clS ty t C).2.2)), (26, s4 2 ((clS ty t C).2.2)), (27, s4 6 ((clS ty t C).2.2)), (28, s4 10 ((clS ty t C).2.2))])) (ob := []) rfl (ob_n) ?_
          exact J.cast (ih (i + 1) (skC ty t (clS ty t C)) (by omega) (skC_inv (clS_inv hi)) ((rdL_t hat hfd).symm.trans hQ)) (by simp only [nI_1]; rfl)
        · have e9 : C = (rdE ty t) := (rdL_f (fun z => hfd z.2)).symm.trans hQ
          refine J.run (sn_X4_readAll F) 10 [0, 0] (S' := (60, [(0, .ref 20), (1, .int (nI i))], [.int C.1.2.2], [(20, rO t C.1.1 C.1.2.1 C.1.2.2 C.2.1.1 C.2.1.2), (21, .inr (.inl (1, ty))), (25, hD C.2.2), (26, s4 2 C.2.2), (27, s4 6 C.2.2), (28, s4 10 C.2.2)])) (ob := [¬ 400 ≤ (nI i), ¬ (nI t) ≤ (nI C.1.1)]) rfl (ob_c (n_nle (a := 400) (by omega) (by omega) (by omega)) (ob_c (n_nle (by omega) (by omega) hat) ob_n)) ?_
          refine J.run (sn_X4_readAll F) 1 [1] (S' := (77, [(0, .ref 20), (1, .int (nI i))], [], [(20, rO t C.1.1 C.1.2.1 C.1.2.2 C.2.1.1 C.2.1.2), (21, .inr (.inl (1, ty))), (25, hD C.2.2), (26, s4 2 C.2.2), (27, s4 6 C.2.2), (28, s4 10 C.2.2)])) (ob := [¬ C.1.2.2 = 0]) rfl (ob_c hfd ob_n) ?_
          rw [e9]
          exact HE _
      · have e9 : C = (rdE ty t) := (rdL_f (fun z => hat z.1)).symm.trans hQ
        refine J.run (sn_X4_readAll F) 8 [0, 1] (S' := (77, [(0, .ref 20), (1, .int (nI i))], [], [(20, rO t C.1.1 C.1.2.1 C.1.2.2 C.2.1.1 C.2.1.2), (21, .inr (.inl (1, ty))), (25, hD C.2.2), (26, s4 2 C.2.2), (27, s4 6 C.2.2), (28, s4 10 C.2.2)])) (ob := [¬ 400 ≤ (nI i), (nI t) ≤ (nI C.1.1)]) rfl (ob_c (n_nle (a := 400) (by omega) (by omega) (by omega)) (ob_c (n_le (by omega) (by omega) (by omega)) ob_n)) ?_
        rw [e9]
        exact HE _
  refine J.run (sn_X4_readAll F) 2 [] (S' := (4, [(0, .ref 20)], [.ref 25], [(20, rO t a0 pl fd lt ct), (21, .inr (.inl (1, ty))), (25, hD h0), (26, s4 2 h0), (27, s4 6 h0), (28, s4 10 h0)])) (ob := []) rfl (ob_n) ?_
  refine J.callVK F hJ lk_X4_29 im_X1_clear se_X1_clear (by decide +kernel) (c_clear h0) (smT [(10, 25), (11, 26), (12, 27), (13, 28), (14, 29)]) (by omega) [] [25, 26, 27, 28] rfl rfl rfl rfl rfl rfl (by decide +kernel) rfl (by decide +kernel) (fun r ws' hk hp => ?_)
  obtain ⟨rfl, rfl⟩ := hp
  show J x 2 (ad, 0, 0) (7, [(0, .ref 20)], [], [(20, rO t a0 pl fd lt ct), (21, .inr (.inl (1, ty))), (25, hD hclr), (26, s4 2 hclr), (27, s4 6 hclr), (28, s4 10 hclr)])
  refine J.run (sn_X4_readAll F) 10 [] (S' := (23, [(0, .ref 20)], [.ref 20], [(20, .inl (4, [.ref 25, .int (nI t), .int (-1), .ref 21, .int (nI 0), .int 0, .int lt, .int ct])), (21, .inr (.inl (1, ty))), (25, hD hclr), (26, s4 2 hclr), (27, s4 6 hclr), (28, s4 10 hclr)])) (ob := []) rfl (ob_n) ?_
  refine J.run (sn_X4_readAll F) 6 [] (S' := (33, [(0, .ref 20)], [.ref 20], [(20, .inl (4, [.ref 25, .int (nI t), .int (-1), .ref 21, .int (nI 0), .int 0, .int 0, .int 0])), (21, .inr (.inl (1, ty))), (25, hD hclr), (26, s4 2 hclr), (27, s4 6 hclr), (28, s4 10 hclr)])) (ob := [(0 : Int32) = 0 ∨ (0 : Int32) = 1, (0 : Int32) = 0 ∨ (0 : Int32) = 1]) rfl (ob_c (by decide) (ob_c (by decide) ob_n)) ?_
  have hsk1 : (skq ty t 32 32 0) ≤ t := skq_le (by omega)
  have hsg1 := skq_ge ty t 32 32 0
  refine J.callVK F hJ lk_X4_45 im_X4_skipBlanks se_X4_skipBlanks (by decide +kernel) (c_skipBlanks ty hty t ht 0 (by omega) (-1) 0 0 0) (fun k => k) (by omega) [] [20, 21] rfl rfl rfl rfl rfl rfl (by decide +kernel) rfl (by decide +kernel) (fun r ws' hk hp => ?_)
  obtain ⟨rfl, rfl⟩ := hp
  show J x 2 (ad, 0, 0) (36, [(0, .ref 20)], [], [(20, rO t (skq ty t 32 32 0) (-1) 0 0 0), (21, .inr (.inl (1, ty))), (25, hD hclr), (26, s4 2 hclr), (27, s4 6 hclr), (28, s4 10 hclr)])
  refine J.run (sn_X4_readAll F) 2 [] (S' := (38, [(0, .ref 20), (1, .int 0)], [], [(20, rO t (skq ty t 32 32 0) (-1) 0 0 0), (21, .inr (.inl (1, ty))), (25, hD hclr), (26, s4 2 hclr), (27, s4 6 hclr), (28, s4 10 hclr)])) (ob := []) rfl (ob_n) ?_
  exact J.cast (H 400 0 (skC ty t ((0, (-1 : Int32), (0 : Int32)), ((0 : Int32), (0 : Int32)), hclr)) (by omega) (skC_inv ⟨Nat.zero_le t, Or.inl rfl, Or.inl rfl, Or.inl rfl⟩) rfl) rfl
set_option maxHeartbeats 4000000 in
set_option maxRecDepth 100000 in
theorem c_feedO1 (kp : Int32) (ty : List Int32) (hty : ty.length = 400) (t : Nat) (a : Nat) (pl fd lt ct : Int32) (n : Int32) (v : Int64) (h1 : n < 1) : Ctr mk_X6_feed 2 [.ref 0, .int n, .long v] [(0, .inl (6, [.ref 10, .ref 20, .ref 100, .ref 110, .ref 30, .ref 40, .ref 50, .ref 60, .int kp])), (20, rO t a pl fd lt ct), (21, .inr (.inl (1, ty)))] (fun r u => r = some (.int (-1000000002)) ∧ u = [(0, .inl (6, [.ref 10, .ref 20, .ref 100, .ref 110, .ref 30, .ref 40, .ref 50, .ref 60, .int kp])), (20, rO t a pl fd lt ct), (21, .inr (.inl (1, ty)))]) := by
  refine Ctr.of rfl (Nat.le_of_ble_eq_true rfl) ?_
  intro x ad F hJ hR
  refine J.run (sn_X6_feed F) 4 [1] (S' := (13, [(0, .ref 0), (1, .int n), (2, .long v)], [.int (-1000000002)], [(0, .inl (6, [.ref 10, .ref 20, .ref 100, .ref 110, .ref 30, .ref 40, .ref 50, .ref 60, .int kp])), (20, rO t a pl fd lt ct), (21, .inr (.inl (1, ty)))])) (ob := [n < 1]) rfl (ob_c h1 ob_n) ?_
  exact J.iret F hR (Nat.le_refl _) (Nat.le_refl _) rfl rfl (by decide +kernel) ⟨rfl, keq [0, 20, 21] rfl rfl, rfl, rfl⟩
set_option maxHeartbeats 4000000 in
set_option maxRecDepth 100000 in
theorem c_feedO2 (kp : Int32) (ty : List Int32) (hty : ty.length = 400) (t : Nat) (a : Nat) (pl fd lt ct : Int32) (n : Int32) (v : Int64) (h1 : ¬ n < 1) (h2 : 8 < n) : Ctr mk_X6_feed 2 [.ref 0, .int n, .long v] [(0, .inl (6, [.ref 10, .ref 20, .ref 100, .ref 110, .ref 30, .ref 40, .ref 50, .ref 60, .int kp])), (20, rO t a pl fd lt ct), (21, .inr (.inl (1, ty)))] (fun r u => r = some (.int (-1000000002)) ∧ u = [(0, .inl (6, [.ref 10, .ref 20, .ref 100, .ref 110, .ref 30, .ref 40, .ref 50, .ref 60, .int kp])), (20, rO t a pl fd lt ct), (21, .inr (.inl (1, ty)))]) := by
  refine Ctr.of rfl (Nat.le_of_ble_eq_true rfl) ?_
  intro x ad F hJ hR
  refine J.run (sn_X6_feed F) 7 [0, 0] (S' := (13, [(0, .ref 0), (1, .int n), (2, .long v)], [.int (-1000000002)], [(0, .inl (6, [.ref 10, .ref 20, .ref 100, .ref 110, .ref 30, .ref 40, .ref 50, .ref 60, .int kp])), (20, rO t a pl fd lt ct), (21, .inr (.inl (1, ty)))])) (ob := [¬ n < 1, ¬ n ≤ 8]) rfl (ob_c h1 (ob_c (f_lt h2) ob_n)) ?_
  exact J.iret F hR (Nat.le_refl _) (Nat.le_refl _) rfl rfl (by decide +kernel) ⟨rfl, keq [0, 20, 21] rfl rfl, rfl, rfl⟩
set_option maxHeartbeats 4000000 in
set_option maxRecDepth 100000 in
theorem c_feedF1 (kp : Int32) (ty : List Int32) (hty : ty.length = 400) (t : Nat) (a : Nat) (pl fd lt ct : Int32) (v : Int64) (ht : t ≤ 400) (hn : ¬ t + 1 ≤ 400) : Ctr mk_X6_feed 2 [.ref 0, .int 1, .long v] [(0, .inl (6, [.ref 10, .ref 20, .ref 100, .ref 110, .ref 30, .ref 40, .ref 50, .ref 60, .int kp])), (20, rO t a pl fd lt ct), (21, .inr (.inl (1, ty)))] (fun r u => r = some (.int (-1000000004)) ∧ u = [(0, .inl (6, [.ref 10, .ref 20, .ref 100, .ref 110, .ref 30, .ref 40, .ref 50, .ref 60, .int kp])), (20, rO t a pl fd lt ct), (21, .inr (.inl (1, ty)))]) := by
  refine Ctr.of rfl (Nat.le_of_ble_eq_true rfl) ?_
  intro x ad F hJ hR
  refine J.run (sn_X6_feed F) 10 [0, 1] (S' := (20, [(0, .ref 0), (1, .int 1), (2, .long v)], [.long v, .int 1, .ref 20], [(0, .inl (6, [.ref 10, .ref 20, .ref 100, .ref 110, .ref 30, .ref 40, .ref 50, .ref 60, .int kp])), (20, rO t a pl fd lt ct), (21, .inr (.inl (1, ty)))])) (ob := [¬ (1 : Int32) < 1, (1 : Int32) ≤ 8]) rfl (ob_c (by decide) (ob_c (by decide) ob_n)) ?_
  refine J.callVK F hJ lk_X6_61 im_X4_append se_X4_append (by decide +kernel) (c_rapF1 ty hty t a pl fd lt ct v ht hn) (fun k => k) (by omega) [] [20, 21] rfl rfl rfl rfl rfl rfl (by decide +kernel) rfl (by decide +kernel) (fun r ws' hk hp => ?_)
  obtain ⟨rfl, rfl⟩ := hp
  show J x 4 (ad, 0, 0) (23, [(0, .ref 0), (1, .int 1), (2, .long v)], [.int 0], [(0, .inl (6, [.ref 10, .ref 20, .ref 100, .ref 110, .ref 30, .ref 40, .ref 50, .ref 60, .int kp])), (20, rO t a pl fd lt ct), (21, .inr (.inl (1, ty)))])
  refine J.run (sn_X6_feed F) 2 [1] (S' := (38, [(0, .ref 0), (1, .int 1), (2, .long v)], [.int (-1000000004)], [(0, .inl (6, [.ref 10, .ref 20, .ref 100, .ref 110, .ref 30, .ref 40, .ref 50, .ref 60, .int kp])), (20, rO t a pl fd lt ct), (21, .inr (.inl (1, ty)))])) (ob := [(0 : Int32) = 0]) rfl (ob_c (by decide) ob_n) ?_
  exact J.iret F hR (Nat.le_refl _) (Nat.le_refl _) rfl rfl (by decide +kernel) ⟨rfl, keq [0, 20, 21] rfl rfl, rfl, rfl⟩
set_option maxHeartbeats 4000000 in
set_option maxRecDepth 100000 in
theorem c_feed1 (kp : Int32) (ty : List Int32) (hty : ty.length = 400) (t : Nat) (a : Nat) (pl fd lt ct : Int32) (v : Int64) (hn : t + 1 ≤ 400) : Ctr mk_X6_feed 2 [.ref 0, .int 1, .long v] [(0, .inl (6, [.ref 10, .ref 20, .ref 100, .ref 110, .ref 30, .ref 40, .ref 50, .ref 60, .int kp])), (20, rO t a pl fd lt ct), (21, .inr (.inl (1, ty)))] (fun r u => r = some (.int (nI (t + 1))) ∧ u = [(0, .inl (6, [.ref 10, .ref 20, .ref 100, .ref 110, .ref 30, .ref 40, .ref 50, .ref 60, .int kp])), (20, rO (t + 1) a pl fd lt ct), (21, .inr (.inl (1, (apT v 1 t ty))))]) := by
  refine Ctr.of rfl (Nat.le_of_ble_eq_true rfl) ?_
  intro x ad F hJ hR
  refine J.run (sn_X6_feed F) 10 [0, 1] (S' := (20, [(0, .ref 0), (1, .int 1), (2, .long v)], [.long v, .int 1, .ref 20], [(0, .inl (6, [.ref 10, .ref 20, .ref 100, .ref 110, .ref 30, .ref 40, .ref 50, .ref 60, .int kp])), (20, rO t a pl fd lt ct), (21, .inr (.inl (1, ty)))])) (ob := [¬ (1 : Int32) < 1, (1 : Int32) ≤ 8]) rfl (ob_c (by decide) (ob_c (by decide) ob_n)) ?_
  refine J.callVK F hJ lk_X6_61 im_X4_append se_X4_append (by decide +kernel) (c_rap1 ty hty t a pl fd lt ct v hn) (fun k => k) (by omega) [] [20, 21] rfl rfl rfl rfl rfl rfl (by decide +kernel) rfl (by decide +kernel) (fun r ws' hk hp => ?_)
  obtain ⟨rfl, rfl⟩ := hp
  show J x 4 (ad, 0, 0) (23, [(0, .ref 0), (1, .int 1), (2, .long v)], [.int 1], [(0, .inl (6, [.ref 10, .ref 20, .ref 100, .ref 110, .ref 30, .ref 40, .ref 50, .ref 60, .int kp])), (20, rO (t + 1) a pl fd lt ct), (21, .inr (.inl (1, (apT v 1 t ty))))])
  refine J.run (sn_X6_feed F) 5 [0] (S' := (38, [(0, .ref 0), (1, .int 1), (2, .long v)], [.int (nI (t + 1))], [(0, .inl (6, [.ref 10, .ref 20, .ref 100, .ref 110, .ref 30, .ref 40, .ref 50, .ref 60, .int kp])), (20, rO (t + 1) a pl fd lt ct), (21, .inr (.inl (1, (apT v 1 t ty))))])) (ob := [¬ (1 : Int32) = 0]) rfl (ob_c (by decide) ob_n) ?_
  exact J.iret F hR (Nat.le_refl _) (Nat.le_refl _) rfl rfl (by decide +kernel) ⟨rfl, keq [0, 20, 21] rfl rfl, rfl, rfl⟩
set_option maxHeartbeats 4000000 in
set_option maxRecDepth 100000 in
theorem c_feedF2 (kp : Int32) (ty : List Int32) (hty : ty.length = 400) (t : Nat) (a : Nat) (pl fd lt ct : Int32) (v : Int64) (ht : t ≤ 400) (hn : ¬ t + 2 ≤ 400) : Ctr mk_X6_feed 2 [.ref 0, .int 2, .long v] [(0, .inl (6, [.ref 10, .ref 20, .ref 100, .ref 110, .ref 30, .ref 40, .ref 50, .ref 60, .int kp])), (20, rO t a pl fd lt ct), (21, .inr (.inl (1, ty)))] (fun r u => r = some (.int (-1000000004)) ∧ u = [(0, .inl (6, [.ref 10, .ref 20, .ref 100, .ref 110, .ref 30, .ref 40, .ref 50, .ref 60, .int kp])), (20, rO t a pl fd lt ct), (21, .inr (.inl (1, ty)))]) := by
  refine Ctr.of rfl (Nat.le_of_ble_eq_true rfl) ?_
  intro x ad F hJ hR
  refine J.run (sn_X6_feed F) 10 [0, 1] (S' := (20, [(0, .ref 0), (1, .int 2), (2, .long v)], [.long v, .int 2, .ref 20], [(0, .inl (6, [.ref 10, .ref 20, .ref 100, .ref 110, .ref 30, .ref 40, .ref 50, .ref 60, .int kp])), (20, rO t a pl fd lt ct), (21, .inr (.inl (1, ty)))])) (ob := [¬ (2 : Int32) < 1, (2 : Int32) ≤ 8]) rfl (ob_c (by decide) (ob_c (by decide) ob_n)) ?_
  refine J.callVK F hJ lk_X6_61 im_X4_append se_X4_append (by decide +kernel) (c_rapF2 ty hty t a pl fd lt ct v ht hn) (fun k => k) (by omega) [] [20, 21] rfl rfl rfl rfl rfl rfl (by decide +kernel) rfl (by decide +kernel) (fun r ws' hk hp => ?_)
  obtain ⟨rfl, rfl⟩ := hp
  show J x 4 (ad, 0, 0) (23, [(0, .ref 0), (1, .int 2), (2, .long v)], [.int 0], [(0, .inl (6, [.ref 10, .ref 20, .ref 100, .ref 110, .ref 30, .ref 40, .ref 50, .ref 60, .int kp])), (20, rO t a pl fd lt ct), (21, .inr (.inl (1, ty)))])
  refine J.run (sn_X6_feed F) 2 [1] (S' := (38, [(0, .ref 0), (1, .int 2), (2, .long v)], [.int (-1000000004)], [(0, .inl (6, [.ref 10, .ref 20, .ref 100, .ref 110, .ref 30, .ref 40, .ref 50, .ref 60, .int kp])), (20, rO t a pl fd lt ct), (21, .inr (.inl (1, ty)))])) (ob := [(0 : Int32) = 0]) rfl (ob_c (by decide) ob_n) ?_
  exact J.iret F hR (Nat.le_refl _) (Nat.le_refl _) rfl rfl (by decide +kernel) ⟨rfl, keq [0, 20, 21] rfl rfl, rfl, rfl⟩
set_option maxHeartbeats 4000000 in
set_option maxRecDepth 100000 in
theorem c_feed2 (kp : Int32) (ty : List Int32) (hty : ty.length = 400) (t : Nat) (a : Nat) (pl fd lt ct : Int32) (v : Int64) (hn : t + 2 ≤ 400) : Ctr mk_X6_feed 2 [.ref 0, .int 2, .long v] [(0, .inl (6, [.ref 10, .ref 20, .ref 100, .ref 110, .ref 30, .ref 40, .ref 50, .ref 60, .int kp])), (20, rO t a pl fd lt ct), (21, .inr (.inl (1, ty)))] (fun r u => r = some (.int (nI (t + 2))) ∧ u = [(0, .inl (6, [.ref 10, .ref 20, .ref 100, .ref 110, .ref 30, .ref 40, .ref 50, .ref 60, .int kp])), (20, rO (t + 2) a pl fd lt ct), (21, .inr (.inl (1, (apT v 2 t ty))))]) := by
  refine Ctr.of rfl (Nat.le_of_ble_eq_true rfl) ?_
  intro x ad F hJ hR
  refine J.run (sn_X6_feed F) 10 [0, 1] (S' := (20, [(0, .ref 0), (1, .int 2), (2, .long v)], [.long v, .int 2, .ref 20], [(0, .inl (6, [.ref 10, .ref 20, .ref 100, .ref 110, .ref 30, .ref 40, .ref 50, .ref 60, .int kp])), (20, rO t a pl fd lt ct), (21, .inr (.inl (1, ty)))])) (ob := [¬ (2 : Int32) < 1, (2 : Int32) ≤ 8]) rfl (ob_c (by decide) (ob_c (by decide) ob_n)) ?_
  refine J.callVK F hJ lk_X6_61 im_X4_append se_X4_append (by decide +kernel) (c_rap2 ty hty t a pl fd lt ct v hn) (fun k => k) (by omega) [] [20, 21] rfl rfl rfl rfl rfl rfl (by decide +kernel) rfl (by decide +kernel) (fun r ws' hk hp => ?_)
  obtain ⟨rfl, rfl⟩ := hp
  show J x 4 (ad, 0, 0) (23, [(0, .ref 0), (1, .int 2), (2, .long v)], [.int 1], [(0, .inl (6, [.ref 10, .ref 20, .ref 100, .ref 110, .ref 30, .ref 40, .ref 50, .ref 60, .int kp])), (20, rO (t + 2) a pl fd lt ct), (21, .inr (.inl (1, (apT v 2 t ty))))])
  refine J.run (sn_X6_feed F) 5 [0] (S' := (38, [(0, .ref 0), (1, .int 2), (2, .long v)], [.int (nI (t + 2))], [(0, .inl (6, [.ref 10, .ref 20, .ref 100, .ref 110, .ref 30, .ref 40, .ref 50, .ref 60, .int kp])), (20, rO (t + 2) a pl fd lt ct), (21, .inr (.inl (1, (apT v 2 t ty))))])) (ob := [¬ (1 : Int32) = 0]) rfl (ob_c (by decide) ob_n) ?_
  exact J.iret F hR (Nat.le_refl _) (Nat.le_refl _) rfl rfl (by decide +kernel) ⟨rfl, keq [0, 20, 21] rfl rfl, rfl, rfl⟩
set_option maxHeartbeats 4000000 in
set_option maxRecDepth 100000 in
theorem c_feedF3 (kp : Int32) (ty : List Int32) (hty : ty.length = 400) (t : Nat) (a : Nat) (pl fd lt ct : Int32) (v : Int64) (ht : t ≤ 400) (hn : ¬ t + 3 ≤ 400) : Ctr mk_X6_feed 2 [.ref 0, .int 3, .long v] [(0, .inl (6, [.ref 10, .ref 20, .ref 100, .ref 110, .ref 30, .ref 40, .ref 50, .ref 60, .int kp])), (20, rO t a pl fd lt ct), (21, .inr (.inl (1, ty)))] (fun r u => r = some (.int (-1000000004)) ∧ u = [(0, .inl (6, [.ref 10, .ref 20, .ref 100, .ref 110, .ref 30, .ref 40, .ref 50, .ref 60, .int kp])), (20, rO t a pl fd lt ct), (21, .inr (.inl (1, ty)))]) := by
  refine Ctr.of rfl (Nat.le_of_ble_eq_true rfl) ?_
  intro x ad F hJ hR
  refine J.run (sn_X6_feed F) 10 [0, 1] (S' := (20, [(0, .ref 0), (1, .int 3), (2, .long v)], [.long v, .int 3, .ref 20], [(0, .inl (6, [.ref 10, .ref 20, .ref 100, .ref 110, .ref 30, .ref 40, .ref 50, .ref 60, .int kp])), (20, rO t a pl fd lt ct), (21, .inr (.inl (1, ty)))])) (ob := [¬ (3 : Int32) < 1, (3 : Int32) ≤ 8]) rfl (ob_c (by decide) (ob_c (by decide) ob_n)) ?_
  refine J.callVK F hJ lk_X6_61 im_X4_append se_X4_append (by decide +kernel) (c_rapF3 ty hty t a pl fd lt ct v ht hn) (fun k => k) (by omega) [] [20, 21] rfl rfl rfl rfl rfl rfl (by decide +kernel) rfl (by decide +kernel) (fun r ws' hk hp => ?_)
  obtain ⟨rfl, rfl⟩ := hp
  show J x 4 (ad, 0, 0) (23, [(0, .ref 0), (1, .int 3), (2, .long v)], [.int 0], [(0, .inl (6, [.ref 10, .ref 20, .ref 100, .ref 110, .ref 30, .ref 40, .ref 50, .ref 60, .int kp])), (20, rO t a pl fd lt ct), (21, .inr (.inl (1, ty)))])
  refine J.run (sn_X6_feed F) 2 [1] (S' := (38, [(0, .ref 0), (1, .int 3), (2, .long v)], [.int (-1000000004)], [(0, .inl (6, [.ref 10, .ref 20, .ref 100, .ref 110, .ref 30, .ref 40, .ref 50, .ref 60, .int kp])), (20, rO t a pl fd lt ct), (21, .inr (.inl (1, ty)))])) (ob := [(0 : Int32) = 0]) rfl (ob_c (by decide) ob_n) ?_
  exact J.iret F hR (Nat.le_refl _) (Nat.le_refl _) rfl rfl (by decide +kernel) ⟨rfl, keq [0, 20, 21] rfl rfl, rfl, rfl⟩
set_option maxHeartbeats 4000000 in
set_option maxRecDepth 100000 in
theorem c_feed3 (kp : Int32) (ty : List Int32) (hty : ty.length = 400) (t : Nat) (a : Nat) (pl fd lt ct : Int32) (v : Int64) (hn : t + 3 ≤ 400) : Ctr mk_X6_feed 2 [.ref 0, .int 3, .long v] [(0, .inl (6, [.ref 10, .ref 20, .ref 100, .ref 110, .ref 30, .ref 40, .ref 50, .ref 60, .int kp])), (20, rO t a pl fd lt ct), (21, .inr (.inl (1, ty)))] (fun r u => r = some (.int (nI (t + 3))) ∧ u = [(0, .inl (6, [.ref 10, .ref 20, .ref 100, .ref 110, .ref 30, .ref 40, .ref 50, .ref 60, .int kp])), (20, rO (t + 3) a pl fd lt ct), (21, .inr (.inl (1, (apT v 3 t ty))))]) := by
  refine Ctr.of rfl (Nat.le_of_ble_eq_true rfl) ?_
  intro x ad F hJ hR
  refine J.run (sn_X6_feed F) 10 [0, 1] (S' := (20, [(0, .ref 0), (1, .int 3), (2, .long v)], [.long v, .int 3, .ref 20], [(0, .inl (6, [.ref 10, .ref 20, .ref 100, .ref 110, .ref 30, .ref 40, .ref 50, .ref 60, .int kp])), (20, rO t a pl fd lt ct), (21, .inr (.inl (1, ty)))])) (ob := [¬ (3 : Int32) < 1, (3 : Int32) ≤ 8]) rfl (ob_c (by decide) (ob_c (by decide) ob_n)) ?_
  refine J.callVK F hJ lk_X6_61 im_X4_append se_X4_append (by decide +kernel) (c_rap3 ty hty t a pl fd lt ct v hn) (fun k => k) (by omega) [] [20, 21] rfl rfl rfl rfl rfl rfl (by decide +kernel) rfl (by decide +kernel) (fun r ws' hk hp => ?_)
  obtain ⟨rfl, rfl⟩ := hp
  show J x 4 (ad, 0, 0) (23, [(0, .ref 0), (1, .int 3), (2, .long v)], [.int 1], [(0, .inl (6, [.ref 10, .ref 20, .ref 100, .ref 110, .ref 30, .ref 40, .ref 50, .ref 60, .int kp])), (20, rO (t + 3) a pl fd lt ct), (21, .inr (.inl (1, (apT v 3 t ty))))])
  refine J.run (sn_X6_feed F) 5 [0] (S' := (38, [(0, .ref 0), (1, .int 3), (2, .long v)], [.int (nI (t + 3))], [(0, .inl (6, [.ref 10, .ref 20, .ref 100, .ref 110, .ref 30, .ref 40, .ref 50, .ref 60, .int kp])), (20, rO (t + 3) a pl fd lt ct), (21, .inr (.inl (1, (apT v 3 t ty))))])) (ob := [¬ (1 : Int32) = 0]) rfl (ob_c (by decide) ob_n) ?_
  exact J.iret F hR (Nat.le_refl _) (Nat.le_refl _) rfl rfl (by decide +kernel) ⟨rfl, keq [0, 20, 21] rfl rfl, rfl, rfl⟩
set_option maxHeartbeats 4000000 in
set_option maxRecDepth 100000 in
theorem c_feedF4 (kp : Int32) (ty : List Int32) (hty : ty.length = 400) (t : Nat) (a : Nat) (pl fd lt ct : Int32) (v : Int64) (ht : t ≤ 400) (hn : ¬ t + 4 ≤ 400) : Ctr mk_X6_feed 2 [.ref 0, .int 4, .long v] [(0, .inl (6, [.ref 10, .ref 20, .ref 100, .ref 110, .ref 30, .ref 40, .ref 50, .ref 60, .int kp])), (20, rO t a pl fd lt ct), (21, .inr (.inl (1, ty)))] (fun r u => r = some (.int (-1000000004)) ∧ u = [(0, .inl (6, [.ref 10, .ref 20, .ref 100, .ref 110, .ref 30, .ref 40, .ref 50, .ref 60, .int kp])), (20, rO t a pl fd lt ct), (21, .inr (.inl (1, ty)))]) := by
  refine Ctr.of rfl (Nat.le_of_ble_eq_true rfl) ?_
  intro x ad F hJ hR
  refine J.run (sn_X6_feed F) 10 [0, 1] (S' := (20, [(0, .ref 0), (1, .int 4), (2, .long v)], [.long v, .int 4, .ref 20], [(0, .inl (6, [.ref 10, .ref 20, .ref 100, .ref 110, .ref 30, .ref 40, .ref 50, .ref 60, .int kp])), (20, rO t a pl fd lt ct), (21, .inr (.inl (1, ty)))])) (ob := [¬ (4 : Int32) < 1, (4 : Int32) ≤ 8]) rfl (ob_c (by decide) (ob_c (by decide) ob_n)) ?_
  refine J.callVK F hJ lk_X6_61 im_X4_append se_X4_append (by decide +kernel) (c_rapF4 ty hty t a pl fd lt ct v ht hn) (fun k => k) (by omega) [] [20, 21] rfl rfl rfl rfl rfl rfl (by decide +kernel) rfl (by decide +kernel) (fun r ws' hk hp => ?_)
  obtain ⟨rfl, rfl⟩ := hp
  show J x 4 (ad, 0, 0) (23, [(0, .ref 0), (1, .int 4), (2, .long v)], [.int 0], [(0, .inl (6, [.ref 10, .ref 20, .ref 100, .ref 110, .ref 30, .ref 40, .ref 50, .ref 60, .int kp])), (20, rO t a pl fd lt ct), (21, .inr (.inl (1, ty)))])
  refine J.run (sn_X6_feed F) 2 [1] (S' := (38, [(0, .ref 0), (1, .int 4), (2, .long v)], [.int (-1000000004)], [(0, .inl (6, [.ref 10, .ref 20, .ref 100, .ref 110, .ref 30, .ref 40, .ref 50, .ref 60, .int kp])), (20, rO t a pl fd lt ct), (21, .inr (.inl (1, ty)))])) (ob := [(0 : Int32) = 0]) rfl (ob_c (by decide) ob_n) ?_
  exact J.iret F hR (Nat.le_refl _) (Nat.le_refl _) rfl rfl (by decide +kernel) ⟨rfl, keq [0, 20, 21] rfl rfl, rfl, rfl⟩
set_option maxHeartbeats 4000000 in
set_option maxRecDepth 100000 in
theorem c_feed4 (kp : Int32) (ty : List Int32) (hty : ty.length = 400) (t : Nat) (a : Nat) (pl fd lt ct : Int32) (v : Int64) (hn : t + 4 ≤ 400) : Ctr mk_X6_feed 2 [.ref 0, .int 4, .long v] [(0, .inl (6, [.ref 10, .ref 20, .ref 100, .ref 110, .ref 30, .ref 40, .ref 50, .ref 60, .int kp])), (20, rO t a pl fd lt ct), (21, .inr (.inl (1, ty)))] (fun r u => r = some (.int (nI (t + 4))) ∧ u = [(0, .inl (6, [.ref 10, .ref 20, .ref 100, .ref 110, .ref 30, .ref 40, .ref 50, .ref 60, .int kp])), (20, rO (t + 4) a pl fd lt ct), (21, .inr (.inl (1, (apT v 4 t ty))))]) := by
  refine Ctr.of rfl (Nat.le_of_ble_eq_true rfl) ?_
  intro x ad F hJ hR
  refine J.run (sn_X6_feed F) 10 [0, 1] (S' := (20, [(0, .ref 0), (1, .int 4), (2, .long v)], [.long v, .int 4, .ref 20], [(0, .inl (6, [.ref 10, .ref 20, .ref 100, .ref 110, .ref 30, .ref 40, .ref 50, .ref 60, .int kp])), (20, rO t a pl fd lt ct), (21, .inr (.inl (1, ty)))])) (ob := [¬ (4 : Int32) < 1, (4 : Int32) ≤ 8]) rfl (ob_c (by decide) (ob_c (by decide) ob_n)) ?_
  refine J.callVK F hJ lk_X6_61 im_X4_append se_X4_append (by decide +kernel) (c_rap4 ty hty t a pl fd lt ct v hn) (fun k => k) (by omega) [] [20, 21] rfl rfl rfl rfl rfl rfl (by decide +kernel) rfl (by decide +kernel) (fun r ws' hk hp => ?_)
  obtain ⟨rfl, rfl⟩ := hp
  show J x 4 (ad, 0, 0) (23, [(0, .ref 0), (1, .int 4), (2, .long v)], [.int 1], [(0, .inl (6, [.ref 10, .ref 20, .ref 100, .ref 110, .ref 30, .ref 40, .ref 50, .ref 60, .int kp])), (20, rO (t + 4) a pl fd lt ct), (21, .inr (.inl (1, (apT v 4 t ty))))])
  refine J.run (sn_X6_feed F) 5 [0] (S' := (38, [(0, .ref 0), (1, .int 4), (2, .long v)], [.int (nI (t + 4))], [(0, .inl (6, [.ref 10, .ref 20, .ref 100, .ref 110, .ref 30, .ref 40, .ref 50, .ref 60, .int kp])), (20, rO (t + 4) a pl fd lt ct), (21, .inr (.inl (1, (apT v 4 t ty))))])) (ob := [¬ (1 : Int32) = 0]) rfl (ob_c (by decide) ob_n) ?_
  exact J.iret F hR (Nat.le_refl _) (Nat.le_refl _) rfl rfl (by decide +kernel) ⟨rfl, keq [0, 20, 21] rfl rfl, rfl, rfl⟩
set_option maxHeartbeats 4000000 in
set_option maxRecDepth 100000 in
theorem c_feedF5 (kp : Int32) (ty : List Int32) (hty : ty.length = 400) (t : Nat) (a : Nat) (pl fd lt ct : Int32) (v : Int64) (ht : t ≤ 400) (hn : ¬ t + 5 ≤ 400) : Ctr mk_X6_feed 2 [.ref 0, .int 5, .long v] [(0, .inl (6, [.ref 10, .ref 20, .ref 100, .ref 110, .ref 30, .ref 40, .ref 50, .ref 60, .int kp])), (20, rO t a pl fd lt ct), (21, .inr (.inl (1, ty)))] (fun r u => r = some (.int (-1000000004)) ∧ u = [(0, .inl (6, [.ref 10, .ref 20, .ref 100, .ref 110, .ref 30, .ref 40, .ref 50, .ref 60, .int kp])), (20, rO t a pl fd lt ct), (21, .inr (.inl (1, ty)))]) := by
  refine Ctr.of rfl (Nat.le_of_ble_eq_true rfl) ?_
  intro x ad F hJ hR
  refine J.run (sn_X6_feed F) 10 [0, 1] (S' := (20, [(0, .ref 0), (1, .int 5), (2, .long v)], [.long v, .int 5, .ref 20], [(0, .inl (6, [.ref 10, .ref 20, .ref 100, .ref 110, .ref 30, .ref 40, .ref 50, .ref 60, .int kp])), (20, rO t a pl fd lt ct), (21, .inr (.inl (1, ty)))])) (ob := [¬ (5 : Int32) < 1, (5 : Int32) ≤ 8]) rfl (ob_c (by decide) (ob_c (by decide) ob_n)) ?_
  refine J.callVK F hJ lk_X6_61 im_X4_append se_X4_append (by decide +kernel) (c_rapF5 ty hty t a pl fd lt ct v ht hn) (fun k => k) (by omega) [] [20, 21] rfl rfl rfl rfl rfl rfl (by decide +kernel) rfl (by decide +kernel) (fun r ws' hk hp => ?_)
  obtain ⟨rfl, rfl⟩ := hp
  show J x 4 (ad, 0, 0) (23, [(0, .ref 0), (1, .int 5), (2, .long v)], [.int 0], [(0, .inl (6, [.ref 10, .ref 20, .ref 100, .ref 110, .ref 30, .ref 40, .ref 50, .ref 60, .int kp])), (20, rO t a pl fd lt ct), (21, .inr (.inl (1, ty)))])
  refine J.run (sn_X6_feed F) 2 [1] (S' := (38, [(0, .ref 0), (1, .int 5), (2, .long v)], [.int (-1000000004)], [(0, .inl (6, [.ref 10, .ref 20, .ref 100, .ref 110, .ref 30, .ref 40, .ref 50, .ref 60, .int kp])), (20, rO t a pl fd lt ct), (21, .inr (.inl (1, ty)))])) (ob := [(0 : Int32) = 0]) rfl (ob_c (by decide) ob_n) ?_
  exact J.iret F hR (Nat.le_refl _) (Nat.le_refl _) rfl rfl (by decide +kernel) ⟨rfl, keq [0, 20, 21] rfl rfl, rfl, rfl⟩
set_option maxHeartbeats 4000000 in
set_option maxRecDepth 100000 in
theorem c_feed5 (kp : Int32) (ty : List Int32) (hty : ty.length = 400) (t : Nat) (a : Nat) (pl fd lt ct : Int32) (v : Int64) (hn : t + 5 ≤ 400) : Ctr mk_X6_feed 2 [.ref 0, .int 5, .long v] [(0, .inl (6, [.ref 10, .ref 20, .ref 100, .ref 110, .ref 30, .ref 40, .ref 50, .ref 60, .int kp])), (20, rO t a pl fd lt ct), (21, .inr (.inl (1, ty)))] (fun r u => r = some (.int (nI (t + 5))) ∧ u = [(0, .inl (6, [.ref 10, .ref 20, .ref 100, .ref 110, .ref 30, .ref 40, .ref 50, .ref 60, .int kp])), (20, rO (t + 5) a pl fd lt ct), (21, .inr (.inl (1, (apT v 5 t ty))))]) := by
  refine Ctr.of rfl (Nat.le_of_ble_eq_true rfl) ?_
  intro x ad F hJ hR
  refine J.run (sn_X6_feed F) 10 [0, 1] (S' := (20, [(0, .ref 0), (1, .int 5), (2, .long v)], [.long v, .int 5, .ref 20], [(0, .inl (6, [.ref 10, .ref 20, .ref 100, .ref 110, .ref 30, .ref 40, .ref 50, .ref 60, .int kp])), (20, rO t a pl fd lt ct), (21, .inr (.inl (1, ty)))])) (ob := [¬ (5 : Int32) < 1, (5 : Int32) ≤ 8]) rfl (ob_c (by decide) (ob_c (by decide) ob_n)) ?_
  refine J.callVK F hJ lk_X6_61 im_X4_append se_X4_append (by decide +kernel) (c_rap5 ty hty t a pl fd lt ct v hn) (fun k => k) (by omega) [] [20, 21] rfl rfl rfl rfl rfl rfl (by decide +kernel) rfl (by decide +kernel) (fun r ws' hk hp => ?_)
  obtain ⟨rfl, rfl⟩ := hp
  show J x 4 (ad, 0, 0) (23, [(0, .ref 0), (1, .int 5), (2, .long v)], [.int 1], [(0, .inl (6, [.ref 10, .ref 20, .ref 100, .ref 110, .ref 30, .ref 40, .ref 50, .ref 60, .int kp])), (20, rO (t + 5) a pl fd lt ct), (21, .inr (.inl (1, (apT v 5 t ty))))])
  refine J.run (sn_X6_feed F) 5 [0] (S' := (38, [(0, .ref 0), (1, .int 5), (2, .long v)], [.int (nI (t + 5))], [(0, .inl (6, [.ref 10, .ref 20, .ref 100, .ref 110, .ref 30, .ref 40, .ref 50, .ref 60, .int kp])), (20, rO (t + 5) a pl fd lt ct), (21, .inr (.inl (1, (apT v 5 t ty))))])) (ob := [¬ (1 : Int32) = 0]) rfl (ob_c (by decide) ob_n) ?_
  exact J.iret F hR (Nat.le_refl _) (Nat.le_refl _) rfl rfl (by decide +kernel) ⟨rfl, keq [0, 20, 21] rfl rfl, rfl, rfl⟩
set_option maxHeartbeats 4000000 in
set_option maxRecDepth 100000 in
theorem c_feedF6 (kp : Int32) (ty : List Int32) (hty : ty.length = 400) (t : Nat) (a : Nat) (pl fd lt ct : Int32) (v : Int64) (ht : t ≤ 400) (hn : ¬ t + 6 ≤ 400) : Ctr mk_X6_feed 2 [.ref 0, .int 6, .long v] [(0, .inl (6, [.ref 10, .ref 20, .ref 100, .ref 110, .ref 30, .ref 40, .ref 50, .ref 60, .int kp])), (20, rO t a pl fd lt ct), (21, .inr (.inl (1, ty)))] (fun r u => r = some (.int (-1000000004)) ∧ u = [(0, .inl (6, [.ref 10, .ref 20, .ref 100, .ref 110, .ref 30, .ref 40, .ref 50, .ref 60, .int kp])), (20, rO t a pl fd lt ct), (21, .inr (.inl (1, ty)))]) := by
  refine Ctr.of rfl (Nat.le_of_ble_eq_true rfl) ?_
  intro x ad F hJ hR
  refine J.run (sn_X6_feed F) 10 [0, 1] (S' := (20, [(0, .ref 0), (1, .int 6), (2, .long v)], [.long v, .int 6, .ref 20], [(0, .inl (6, [.ref 10, .ref 20, .ref 100, .ref 110, .ref 30, .ref 40, .ref 50, .ref 60, .int kp])), (20, rO t a pl fd lt ct), (21, .inr (.inl (1, ty)))])) (ob := [¬ (6 : Int32) < 1, (6 : Int32) ≤ 8]) rfl (ob_c (by decide) (ob_c (by decide) ob_n)) ?_
  refine J.callVK F hJ lk_X6_61 im_X4_append se_X4_append (by decide +kernel) (c_rapF6 ty hty t a pl fd lt ct v ht hn) (fun k => k) (by omega) [] [20, 21] rfl rfl rfl rfl rfl rfl (by decide +kernel) rfl (by decide +kernel) (fun r ws' hk hp => ?_)
  obtain ⟨rfl, rfl⟩ := hp
  show J x 4 (ad, 0, 0) (23, [(0, .ref 0), (1, .int 6), (2, .long v)], [.int 0], [(0, .inl (6, [.ref 10, .ref 20, .ref 100, .ref 110, .ref 30, .ref 40, .ref 50, .ref 60, .int kp])), (20, rO t a pl fd lt ct), (21, .inr (.inl (1, ty)))])
  refine J.run (sn_X6_feed F) 2 [1] (S' := (38, [(0, .ref 0), (1, .int 6), (2, .long v)], [.int (-1000000004)], [(0, .inl (6, [.ref 10, .ref 20, .ref 100, .ref 110, .ref 30, .ref 40, .ref 50, .ref 60, .int kp])), (20, rO t a pl fd lt ct), (21, .inr (.inl (1, ty)))])) (ob := [(0 : Int32) = 0]) rfl (ob_c (by decide) ob_n) ?_
  exact J.iret F hR (Nat.le_refl _) (Nat.le_refl _) rfl rfl (by decide +kernel) ⟨rfl, keq [0, 20, 21] rfl rfl, rfl, rfl⟩
set_option maxHeartbeats 4000000 in
set_option maxRecDepth 100000 in
theorem c_feed6 (kp : Int32) (ty : List Int32) (hty : ty.length = 400) (t : Nat) (a : Nat) (pl fd lt ct : Int32) (v : Int64) (hn : t + 6 ≤ 400) : Ctr mk_X6_feed 2 [.ref 0, .int 6, .long v] [(0, .inl (6, [.ref 10, .ref 20, .ref 100, .ref 110, .ref 30, .ref 40, .ref 50, .ref 60, .int kp])), (20, rO t a pl fd lt ct), (21, .inr (.inl (1, ty)))] (fun r u => r = some (.int (nI (t + 6))) ∧ u = [(0, .inl (6, [.ref 10, .ref 20, .ref 100, .ref 110, .ref 30, .ref 40, .ref 50, .ref 60, .int kp])), (20, rO (t + 6) a pl fd lt ct), (21, .inr (.inl (1, (apT v 6 t ty))))]) := by
  refine Ctr.of rfl (Nat.le_of_ble_eq_true rfl) ?_
  intro x ad F hJ hR
  refine J.run (sn_X6_feed F) 10 [0, 1] (S' := (20, [(0, .ref 0), (1, .int 6), (2, .long v)], [.long v, .int 6, .ref 20], [(0, .inl (6, [.ref 10, .ref 20, .ref 100, .ref 110, .ref 30, .ref 40, .ref 50, .ref 60, .int kp])), (20, rO t a pl fd lt ct), (21, .inr (.inl (1, ty)))])) (ob := [¬ (6 : Int32) < 1, (6 : Int32) ≤ 8]) rfl (ob_c (by decide) (ob_c (by decide) ob_n)) ?_
  refine J.callVK F hJ lk_X6_61 im_X4_append se_X4_append (by decide +kernel) (c_rap6 ty hty t a pl fd lt ct v hn) (fun k => k) (by omega) [] [20, 21] rfl rfl rfl rfl rfl rfl (by decide +kernel) rfl (by decide +kernel) (fun r ws' hk hp => ?_)
  obtain ⟨rfl, rfl⟩ := hp
  show J x 4 (ad, 0, 0) (23, [(0, .ref 0), (1, .int 6), (2, .long v)], [.int 1], [(0, .inl (6, [.ref 10, .ref 20, .ref 100, .ref 110, .ref 30, .ref 40, .ref 50, .ref 60, .int kp])), (20, rO (t + 6) a pl fd lt ct), (21, .inr (.inl (1, (apT v 6 t ty))))])
  refine J.run (sn_X6_feed F) 5 [0] (S' := (38, [(0, .ref 0), (1, .int 6), (2, .long v)], [.int (nI (t + 6))], [(0, .inl (6, [.ref 10, .ref 20, .ref 100, .ref 110, .ref 30, .ref 40, .ref 50, .ref 60, .int kp])), (20, rO (t + 6) a pl fd lt ct), (21, .inr (.inl (1, (apT v 6 t ty))))])) (ob := [¬ (1 : Int32) = 0]) rfl (ob_c (by decide) ob_n) ?_
  exact J.iret F hR (Nat.le_refl _) (Nat.le_refl _) rfl rfl (by decide +kernel) ⟨rfl, keq [0, 20, 21] rfl rfl, rfl, rfl⟩
set_option maxHeartbeats 4000000 in
set_option maxRecDepth 100000 in
theorem c_feedF7 (kp : Int32) (ty : List Int32) (hty : ty.length = 400) (t : Nat) (a : Nat) (pl fd lt ct : Int32) (v : Int64) (ht : t ≤ 400) (hn : ¬ t + 7 ≤ 400) : Ctr mk_X6_feed 2 [.ref 0, .int 7, .long v] [(0, .inl (6, [.ref 10, .ref 20, .ref 100, .ref 110, .ref 30, .ref 40, .ref 50, .ref 60, .int kp])), (20, rO t a pl fd lt ct), (21, .inr (.inl (1, ty)))] (fun r u => r = some (.int (-1000000004)) ∧ u = [(0, .inl (6, [.ref 10, .ref 20, .ref 100, .ref 110, .ref 30, .ref 40, .ref 50, .ref 60, .int kp])), (20, rO t a pl fd lt ct), (21, .inr (.inl (1, ty)))]) := by
  refine Ctr.of rfl (Nat.le_of_ble_eq_true rfl) ?_
  intro x ad F hJ hR
  refine J.run (sn_X6_feed F) 10 [0, 1] (S' := (20, [(0, .ref 0), (1, .int 7), (2, .long v)], [.long v, .int 7, .ref 20], [(0, .inl (6, [.ref 10, .ref 20, .ref 100, .ref 110, .ref 30, .ref 40, .ref 50, .ref 60, .int kp])), (20, rO t a pl fd lt ct), (21, .inr (.inl (1, ty)))])) (ob := [¬ (7 : Int32) < 1, (7 : Int32) ≤ 8]) rfl (ob_c (by decide) (ob_c (by decide) ob_n)) ?_
  refine J.callVK F hJ lk_X6_61 im_X4_append se_X4_append (by decide +kernel) (c_rapF7 ty hty t a pl fd lt ct v ht hn) (fun k => k) (by omega) [] [20, 21] rfl rfl rfl rfl rfl rfl (by decide +kernel) rfl (by decide +kernel) (fun r ws' hk hp => ?_)
  obtain ⟨rfl, rfl⟩ := hp
  show J x 4 (ad, 0, 0) (23, [(0, .ref 0), (1, .int 7), (2, .long v)], [.int 0], [(0, .inl (6, [.ref 10, .ref 20, .ref 100, .ref 110, .ref 30, .ref 40, .ref 50, .ref 60, .int kp])), (20, rO t a pl fd lt ct), (21, .inr (.inl (1, ty)))])
  refine J.run (sn_X6_feed F) 2 [1] (S' := (38, [(0, .ref 0), (1, .int 7), (2, .long v)], [.int (-1000000004)], [(0, .inl (6, [.ref 10, .ref 20, .ref 100, .ref 110, .ref 30, .ref 40, .ref 50, .ref 60, .int kp])), (20, rO t a pl fd lt ct), (21, .inr (.inl (1, ty)))])) (ob := [(0 : Int32) = 0]) rfl (ob_c (by decide) ob_n) ?_
  exact J.iret F hR (Nat.le_refl _) (Nat.le_refl _) rfl rfl (by decide +kernel) ⟨rfl, keq [0, 20, 21] rfl rfl, rfl, rfl⟩
set_option maxHeartbeats 4000000 in
set_option maxRecDepth 100000 in
theorem c_feed7 (kp : Int32) (ty : List Int32) (hty : ty.length = 400) (t : Nat) (a : Nat) (pl fd lt ct : Int32) (v : Int64) (hn : t + 7 ≤ 400) : Ctr mk_X6_feed 2 [.ref 0, .int 7, .long v] [(0, .inl (6, [.ref 10, .ref 20, .ref 100, .ref 110, .ref 30, .ref 40, .ref 50, .ref 60, .int kp])), (20, rO t a pl fd lt ct), (21, .inr (.inl (1, ty)))] (fun r u => r = some (.int (nI (t + 7))) ∧ u = [(0, .inl (6, [.ref 10, .ref 20, .ref 100, .ref 110, .ref 30, .ref 40, .ref 50, .ref 60, .int kp])), (20, rO (t + 7) a pl fd lt ct), (21, .inr (.inl (1, (apT v 7 t ty))))]) := by
  refine Ctr.of rfl (Nat.le_of_ble_eq_true rfl) ?_
  intro x ad F hJ hR
  refine J.run (sn_X6_feed F) 10 [0, 1] (S' := (20, [(0, .ref 0), (1, .int 7), (2, .long v)], [.long v, .int 7, .ref 20], [(0, .inl (6, [.ref 10, .ref 20, .ref 100, .ref 110, .ref 30, .ref 40, .ref 50, .ref 60, .int kp])), (20, rO t a pl fd lt ct), (21, .inr (.inl (1, ty)))])) (ob := [¬ (7 : Int32) < 1, (7 : Int32) ≤ 8]) rfl (ob_c (by decide) (ob_c (by decide) ob_n)) ?_
  refine J.callVK F hJ lk_X6_61 im_X4_append se_X4_append (by decide +kernel) (c_rap7 ty hty t a pl fd lt ct v hn) (fun k => k) (by omega) [] [20, 21] rfl rfl rfl rfl rfl rfl (by decide +kernel) rfl (by decide +kernel) (fun r ws' hk hp => ?_)
  obtain ⟨rfl, rfl⟩ := hp
  show J x 4 (ad, 0, 0) (23, [(0, .ref 0), (1, .int 7), (2, .long v)], [.int 1], [(0, .inl (6, [.ref 10, .ref 20, .ref 100, .ref 110, .ref 30, .ref 40, .ref 50, .ref 60, .int kp])), (20, rO (t + 7) a pl fd lt ct), (21, .inr (.inl (1, (apT v 7 t ty))))])
  refine J.run (sn_X6_feed F) 5 [0] (S' := (38, [(0, .ref 0), (1, .int 7), (2, .long v)], [.int (nI (t + 7))], [(0, .inl (6, [.ref 10, .ref 20, .ref 100, .ref 110, .ref 30, .ref 40, .ref 50, .ref 60, .int kp])), (20, rO (t + 7) a pl fd lt ct), (21, .inr (.inl (1, (apT v 7 t ty))))])) (ob := [¬ (1 : Int32) = 0]) rfl (ob_c (by decide) ob_n) ?_
  exact J.iret F hR (Nat.le_refl _) (Nat.le_refl _) rfl rfl (by decide +kernel) ⟨rfl, keq [0, 20, 21] rfl rfl, rfl, rfl⟩
set_option maxHeartbeats 4000000 in
set_option maxRecDepth 100000 in
theorem c_feedF8 (kp : Int32) (ty : List Int32) (hty : ty.length = 400) (t : Nat) (a : Nat) (pl fd lt ct : Int32) (v : Int64) (ht : t ≤ 400) (hn : ¬ t + 8 ≤ 400) : Ctr mk_X6_feed 2 [.ref 0, .int 8, .long v] [(0, .inl (6, [.ref 10, .ref 20, .ref 100, .ref 110, .ref 30, .ref 40, .ref 50, .ref 60, .int kp])), (20, rO t a pl fd lt ct), (21, .inr (.inl (1, ty)))] (fun r u => r = some (.int (-1000000004)) ∧ u = [(0, .inl (6, [.ref 10, .ref 20, .ref 100, .ref 110, .ref 30, .ref 40, .ref 50, .ref 60, .int kp])), (20, rO t a pl fd lt ct), (21, .inr (.inl (1, ty)))]) := by
  refine Ctr.of rfl (Nat.le_of_ble_eq_true rfl) ?_
  intro x ad F hJ hR
  refine J.run (sn_X6_feed F) 10 [0, 1] (S' := (20, [(0, .ref 0), (1, .int 8), (2, .long v)], [.long v, .int 8, .ref 20], [(0, .inl (6, [.ref 10, .ref 20, .ref 100, .ref 110, .ref 30, .ref 40, .ref 50, .ref 60, .int kp])), (20, rO t a pl fd lt ct), (21, .inr (.inl (1, ty)))])) (ob := [¬ (8 : Int32) < 1, (8 : Int32) ≤ 8]) rfl (ob_c (by decide) (ob_c (by decide) ob_n)) ?_
  refine J.callVK F hJ lk_X6_61 im_X4_append se_X4_append (by decide +kernel) (c_rapF8 ty hty t a pl fd lt ct v ht hn) (fun k => k) (by omega) [] [20, 21] rfl rfl rfl rfl rfl rfl (by decide +kernel) rfl (by decide +kernel) (fun r ws' hk hp => ?_)
  obtain ⟨rfl, rfl⟩ := hp
  show J x 4 (ad, 0, 0) (23, [(0, .ref 0), (1, .int 8), (2, .long v)], [.int 0], [(0, .inl (6, [.ref 10, .ref 20, .ref 100, .ref 110, .ref 30, .ref 40, .ref 50, .ref 60, .int kp])), (20, rO t a pl fd lt ct), (21, .inr (.inl (1, ty)))])
  refine J.run (sn_X6_feed F) 2 [1] (S' := (38, [(0, .ref 0), (1, .int 8), (2, .long v)], [.int (-1000000004)], [(0, .inl (6, [.ref 10, .ref 20, .ref 100, .ref 110, .ref 30, .ref 40, .ref 50, .ref 60, .int kp])), (20, rO t a pl fd lt ct), (21, .inr (.inl (1, ty)))])) (ob := [(0 : Int32) = 0]) rfl (ob_c (by decide) ob_n) ?_
  exact J.iret F hR (Nat.le_refl _) (Nat.le_refl _) rfl rfl (by decide +kernel) ⟨rfl, keq [0, 20, 21] rfl rfl, rfl, rfl⟩
set_option maxHeartbeats 4000000 in
set_option maxRecDepth 100000 in
theorem c_feed8 (kp : Int32) (ty : List Int32) (hty : ty.length = 400) (t : Nat) (a : Nat) (pl fd lt ct : Int32) (v : Int64) (hn : t + 8 ≤ 400) : Ctr mk_X6_feed 2 [.ref 0, .int 8, .long v] [(0, .inl (6, [.ref 10, .ref 20, .ref 100, .ref 110, .ref 30, .ref 40, .ref 50, .ref 60, .int kp])), (20, rO t a pl fd lt ct), (21, .inr (.inl (1, ty)))] (fun r u => r = some (.int (nI (t + 8))) ∧ u = [(0, .inl (6, [.ref 10, .ref 20, .ref 100, .ref 110, .ref 30, .ref 40, .ref 50, .ref 60, .int kp])), (20, rO (t + 8) a pl fd lt ct), (21, .inr (.inl (1, (apT v 8 t ty))))]) := by
  refine Ctr.of rfl (Nat.le_of_ble_eq_true rfl) ?_
  intro x ad F hJ hR
  refine J.run (sn_X6_feed F) 10 [0, 1] (S' := (20, [(0, .ref 0), (1, .int 8), (2, .long v)], [.long v, .int 8, .ref 20], [(0, .inl (6, [.ref 10, .ref 20, .ref 100, .ref 110, .ref 30, .ref 40, .ref 50, .ref 60, .int kp])), (20, rO t a pl fd lt ct), (21, .inr (.inl (1, ty)))])) (ob := [¬ (8 : Int32) < 1, (8 : Int32) ≤ 8]) rfl (ob_c (by decide) (ob_c (by decide) ob_n)) ?_
  refine J.callVK F hJ lk_X6_61 im_X4_append se_X4_append (by decide +kernel) (c_rap8 ty hty t a pl fd lt ct v hn) (fun k => k) (by omega) [] [20, 21] rfl rfl rfl rfl rfl rfl (by decide +kernel) rfl (by decide +kernel) (fun r ws' hk hp => ?_)
  obtain ⟨rfl, rfl⟩ := hp
  show J x 4 (ad, 0, 0) (23, [(0, .ref 0), (1, .int 8), (2, .long v)], [.int 1], [(0, .inl (6, [.ref 10, .ref 20, .ref 100, .ref 110, .ref 30, .ref 40, .ref 50, .ref 60, .int kp])), (20, rO (t + 8) a pl fd lt ct), (21, .inr (.inl (1, (apT v 8 t ty))))])
  refine J.run (sn_X6_feed F) 5 [0] (S' := (38, [(0, .ref 0), (1, .int 8), (2, .long v)], [.int (nI (t + 8))], [(0, .inl (6, [.ref 10, .ref 20, .ref 100, .ref 110, .ref 30, .ref 40, .ref 50, .ref 60, .int kp])), (20, rO (t + 8) a pl fd lt ct), (21, .inr (.inl (1, (apT v 8 t ty))))])) (ob := [¬ (1 : Int32) = 0]) rfl (ob_c (by decide) ob_n) ?_
  exact J.iret F hR (Nat.le_refl _) (Nat.le_refl _) rfl rfl (by decide +kernel) ⟨rfl, keq [0, 20, 21] rfl rfl, rfl, rfl⟩
set_option maxHeartbeats 4000000 in
set_option maxRecDepth 100000 in
theorem c_chamF (kp : Int32) (ty : List Int32) (hty : ty.length = 400) (t : Nat) (ht : t ≤ 400) (a0 : Nat) (pl fd lt ct : Int32) (h0 h b pl9 : Nat → Int32) (sd mc : Int32) (hE : ¬ (rdE ty t).1.2.2 = 0) : Ctr mk_X6_chamber 12 [.ref 0] [(0, .inl (6, [.ref 10, .ref 20, .ref 100, .ref 110, .ref 30, .ref 40, .ref 50, .ref 60, .int kp])), (20, rO t a0 pl fd lt ct), (21, .inr (.inl (1, ty))), (25, hD h0), (26, s4 2 h0), (27, s4 6 h0), (28, s4 10 h0), (10, hO h), (11, s4 2 h), (12, s4 6 h), (13, s4 10 h), (100, sO 100 b sd), (101, s4 9 b), (102, s4 13 b), (103, s4 17 b), (104, s4 21 b), (30, .inl (3, [.ref 31, .int (pl9 1), .int (pl9 2), .int (pl9 3), .int (pl9 4), .int (pl9 5)])), (50, .inl (2, [.ref 10, .ref 51, .ref 52, .int mc, .ref 53, .ref 54, .ref 55]))] (fun r u => r = some (.int (-10 - (rdE ty t).1.2.2)) ∧ u = [(0, .inl (6, [.ref 10, .ref 20, .ref 100, .ref 110, .ref 30, .ref 40, .ref 50, .ref 60, .int kp])), (20, rO 0 ((rdE ty t).1.1) ((rdE ty t).1.2.1) ((rdE ty t).1.2.2) ((rdE ty t).2.1.1) ((rdE ty t).2.1.2)), (21, .inr (.inl (1, ty))), (25, hD ((rdE ty t).2.2)), (26, s4 2 ((rdE ty t).2.2)), (27, s4 6 ((rdE ty t).2.2)), (28, s4 10 ((rdE ty t).2.2)), (10, hO h), (11, s4 2 h), (12, s4 6 h), (13, s4 10 h), (100, sO 100 b sd), (101, s4 9 b), (102, s4 13 b), (103, s4 17 b), (104, s4 21 b), (30, .inl (3, [.ref 31, .int (pl9 1), .int (pl9 2), .int (pl9 3), .int (pl9 4), .int (pl9 5)])), (50, .inl (2, [.ref 10, .ref 51, .ref 52, .int mc, .ref 53, .ref 54, .ref 55]))]) := by
  refine Ctr.of rfl (Nat.le_of_ble_eq_true rfl) ?_
  intro x ad F hJ hR
  refine J.run (sn_X6_chamber F) 2 [] (S' := (4, [(0, .ref 0)], [.ref 20], [(0, .inl (6, [.ref 10, .ref 20, .ref 100, .ref 110, .ref 30, .ref 40, .ref 50, .ref 60, .int kp])), (20, rO t a0 pl fd lt ct), (21, .inr (.inl (1, ty))), (25, hD h0), (26, s4 2 h0), (27, s4 6 h0), (28, s4 10 h0), (10, hO h), (11, s4 2 h), (12, s4 6 h), (13, s4 10 h), (100, sO 100 b sd), (101, s4 9 b), (102, s4 13 b), (103, s4 17 b), (104, s4 21 b), (30, .inl (3, [.ref 31, .int (pl9 1), .int (pl9 2), .int (pl9 3), .int (pl9 4), .int (pl9 5)])), (50, .inl (2, [.ref 10, .ref 51, .ref 52, .int mc, .ref 53, .ref 54, .ref 55]))])) (ob := []) rfl (ob_n) ?_
  refine J.callVK F hJ lk_X6_70 im_X4_readAll se_X4_readAll (by decide +kernel) (c_rall ty hty t ht a0 pl fd lt ct h0) (fun k => k) (by omega) [] [20, 21, 25, 26, 27, 28] rfl rfl rfl rfl rfl rfl (by decide +kernel) rfl (by decide +kernel) (fun r ws' hk hp => ?_)
  obtain ⟨rfl, rfl⟩ := hp
  show J x 2 (ad, 0, 0) (7, [(0, .ref 0)], [.int ((rdE ty t).1.2.2)], [(0, .inl (6, [.ref 10, .ref 20, .ref 100, .ref 110, .ref 30, .ref 40, .ref 50, .ref 60, .int kp])), (20, rO 0 ((rdE ty t).1.1) ((rdE ty t).1.2.1) ((rdE ty t).1.2.2) ((rdE ty t).2.1.1) ((rdE ty t).2.1.2)), (21, .inr (.inl (1, ty))), (25, hD ((rdE ty t).2.2)), (26, s4 2 ((rdE ty t).2.2)), (27, s4 6 ((rdE ty t).2.2)), (28, s4 10 ((rdE ty t).2.2)), (10, hO h), (11, s4 2 h), (12, s4 6 h), (13, s4 10 h), (100, sO 100 b sd), (101, s4 9 b), (102, s4 13 b), (103, s4 17 b), (104, s4 21 b), (30, .inl (3, [.ref 31, .int (pl9 1), .int (pl9 2), .int (pl9 3), .int (pl9 4), .int (pl9 5)])), (50, .inl (2, [.ref 10, .ref 51, .ref 52, .int mc, .ref 53, .ref 54, .ref 55]))])
  refine J.run (sn_X6_chamber F) 6 [0] (S' := (16, [(0, .ref 0), (1, .int ((rdE ty t).1.2.2))], [.int ((-10) - ((rdE ty t).1.2.2))], [(0, .inl (6, [.ref 10, .ref 20, .ref 100, .ref 110, .ref 30, .ref 40, .ref 50, .ref 60, .int kp])), (20, rO 0 ((rdE ty t).1.1) ((rdE ty t).1.2.1) ((rdE ty t).1.2.2) ((rdE ty t).2.1.1) ((rdE ty t).2.1.2)), (21, .inr (.inl (1, ty))), (25, hD ((rdE ty t).2.2)), (26, s4 2 ((rdE ty t).2.2)), (27, s4 6 ((rdE ty t).2.2)), (28, s4 10 ((rdE ty t).2.2)), (10, hO h), (11, s4 2 h), (12, s4 6 h), (13, s4 10 h), (100, sO 100 b sd), (101, s4 9 b), (102, s4 13 b), (103, s4 17 b), (104, s4 21 b), (30, .inl (3, [.ref 31, .int (pl9 1), .int (pl9 2), .int (pl9 3), .int (pl9 4), .int (pl9 5)])), (50, .inl (2, [.ref 10, .ref 51, .ref 52, .int mc, .ref 53, .ref 54, .ref 55]))])) (ob := [¬ ((rdE ty t).1.2.2) = 0]) rfl (ob_c hE ob_n) ?_
  exact J.iret F hR (Nat.le_refl _) (Nat.le_refl _) rfl rfl (by decide +kernel) ⟨rfl, keq [0, 20, 21, 25, 26, 27, 28, 10, 11, 12, 13, 100, 101, 102, 103, 104, 30, 50] rfl rfl, rfl, rfl⟩
set_option maxHeartbeats 4000000 in
set_option maxRecDepth 100000 in
theorem c_chamT (kp : Int32) (ty : List Int32) (hty : ty.length = 400) (t : Nat) (ht : t ≤ 400) (a0 : Nat) (pl fd lt ct : Int32) (h0 h b pl9 : Nat → Int32) (sd mc : Int32) (hE : (rdE ty t).1.2.2 = 0) : Ctr mk_X6_chamber 12 [.ref 0] [(0, .inl (6, [.ref 10, .ref 20, .ref 100, .ref 110, .ref 30, .ref 40, .ref 50, .ref 60, .int kp])), (20, rO t a0 pl fd lt ct), (21, .inr (.inl (1, ty))), (25, hD h0), (26, s4 2 h0), (27, s4 6 h0), (28, s4 10 h0), (10, hO h), (11, s4 2 h), (12, s4 6 h), (13, s4 10 h), (100, sO 100 b sd), (101, s4 9 b), (102, s4 13 b), (103, s4 17 b), (104, s4 21 b), (30, .inl (3, [.ref 31, .int (pl9 1), .int (pl9 2), .int (pl9 3), .int (pl9 4), .int (pl9 5)])), (50, .inl (2, [.ref 10, .ref 51, .ref 52, .int mc, .ref 53, .ref 54, .ref 55]))] (fun r u => r = some (.int ((rdE ty t).2.2 0)) ∧ u = [(0, .inl (6, [.ref 10, .ref 20, .ref 100, .ref 110, .ref 30, .ref 40, .ref 50, .ref 60, .int 0])), (20, rO 0 ((rdE ty t).1.1) ((rdE ty t).1.2.1) ((rdE ty t).1.2.2) ((rdE ty t).2.1.1) ((rdE ty t).2.1.2)), (21, .inr (.inl (1, ty))), (25, hD ((rdE ty t).2.2)), (26, s4 2 ((rdE ty t).2.2)), (27, s4 6 ((rdE ty t).2.2)), (28, s4 10 ((rdE ty t).2.2)), (10, hO ((rdE ty t).2.2)), (11, s4 2 ((rdE ty t).2.2)), (12, s4 6 ((rdE ty t).2.2)), (13, s4 10 ((rdE ty t).2.2)), (100, sO 100 (opn ((rdE ty t).2.2)) sd), (101, s4 9 (opn ((rdE ty t).2.2))), (102, s4 13 (opn ((rdE ty t).2.2))), (103, s4 17 (opn ((rdE ty t).2.2))), (104, s4 21 (opn ((rdE ty t).2.2))), (30, .inl (3, [.ref 31, .int 0, .int (pl9 2), .int (pl9 3), .int (pl9 4), .int (pl9 5)])), (50, .inl (2, [.ref 10, .ref 51, .ref 52, .int 0, .ref 53, .ref 54, .ref 55]))]) := by
  refine Ctr.of rfl (Nat.le_of_ble_eq_true rfl) ?_
  intro x ad F hJ hR
  refine J.run (sn_X6_chamber F) 2 [] (S' := (4, [(0, .ref 0)], [.ref 20], [(0, .inl (6, [.ref 10, .ref 20, .ref 100, .ref 110, .ref 30, .ref 40, .ref 50, .ref 60, .int kp])), (20, rO t a0 pl fd lt ct), (21, .inr (.inl (1, ty))), (25, hD h0), (26, s4 2 h0), (27, s4 6 h0), (28, s4 10 h0), (10, hO h), (11, s4 2 h), (12, s4 6 h), (13, s4 10 h), (100, sO 100 b sd), (101, s4 9 b), (102, s4 13 b), (103, s4 17 b), (104, s4 21 b), (30, .inl (3, [.ref 31, .int (pl9 1), .int (pl9 2), .int (pl9 3), .int (pl9 4), .int (pl9 5)])), (50, .inl (2, [.ref 10, .ref 51, .ref 52, .int mc, .ref 53, .ref 54, .ref 55]))])) (ob := []) rfl (ob_n) ?_
  refine J.callVK F hJ lk_X6_70 im_X4_readAll se_X4_readAll (by decide +kernel) (c_rall ty hty t ht a0 pl fd lt ct h0) (fun k => k) (by omega) [] [20, 21, 25, 26, 27, 28] rfl rfl rfl rfl rfl rfl (by decide +kernel) rfl (by decide +kernel) (fun r ws' hk hp => ?_)
  obtain ⟨rfl, rfl⟩ := hp
  show J x 2 (ad, 0, 0) (7, [(0, .ref 0)], [.int ((rdE ty t).1.2.2)], [(0, .inl (6, [.ref 10, .ref 20, .ref 100, .ref 110, .ref 30, .ref 40, .ref 50, .ref 60, .int kp])), (20, rO 0 ((rdE ty t).1.1) ((rdE ty t).1.2.1) ((rdE ty t).1.2.2) ((rdE ty t).2.1.1) ((rdE ty t).2.1.2)), (21, .inr (.inl (1, ty))), (25, hD ((rdE ty t).2.2)), (26, s4 2 ((rdE ty t).2.2)), (27, s4 6 ((rdE ty t).2.2)), (28, s4 10 ((rdE ty t).2.2)), (10, hO h), (11, s4 2 h), (12, s4 6 h), (13, s4 10 h), (100, sO 100 b sd), (101, s4 9 b), (102, s4 13 b), (103, s4 17 b), (104, s4 21 b), (30, .inl (3, [.ref 31, .int (pl9 1), .int (pl9 2), .int (pl9 3), .int (pl9 4), .int (pl9 5)])), (50, .inl (2, [.ref 10, .ref 51, .ref 52, .int mc, .ref 53, .ref 54, .ref 55]))])
  refine J.run (sn_X6_chamber F) 8 [1] (S' := (28, [(0, .ref 0), (1, .int ((rdE ty t).1.2.2))], [.ref 25, .ref 10], [(0, .inl (6, [.ref 10, .ref 20, .ref 100, .ref 110, .ref 30, .ref 40, .ref 50, .ref 60, .int kp])), (20, rO 0 ((rdE ty t).1.1) ((rdE ty t).1.2.1) ((rdE ty t).1.2.2) ((rdE ty t).2.1.1) ((rdE ty t).2.1.2)), (21, .inr (.inl (1, ty))), (25, hD ((rdE ty t).2.2)), (26, s4 2 ((rdE ty t).2.2)), (27, s4 6 ((rdE ty t).2.2)), (28, s4 10 ((rdE ty t).2.2)), (10, hO h), (11, s4 2 h), (12, s4 6 h), (13, s4 10 h), (100, sO 100 b sd), (101, s4 9 b), (102, s4 13 b), (103, s4 17 b), (104, s4 21 b), (30, .inl (3, [.ref 31, .int (pl9 1), .int (pl9 2), .int (pl9 3), .int (pl9 4), .int (pl9 5)])), (50, .inl (2, [.ref 10, .ref 51, .ref 52, .int mc, .ref 53, .ref 54, .ref 55]))])) (ob := [((rdE ty t).1.2.2) = 0]) rfl (ob_c hE ob_n) ?_
  refine J.callVK F hJ lk_X6_77 im_X1_takeFrom se_X1_takeFrom (by decide +kernel) (c_takeH h ((rdE ty t).2.2)) (fun k => k) (by omega) [] [10, 11, 12, 13, 25, 26, 27, 28] rfl rfl rfl rfl rfl rfl (by decide +kernel) rfl (by decide +kernel) (fun r ws' hk hp => ?_)
  obtain ⟨rfl, rfl⟩ := hp
  show J x 2 (ad, 0, 0) (31, [(0, .ref 0), (1, .int ((rdE ty t).1.2.2))], [], [(0, .inl (6, [.ref 10, .ref 20, .ref 100, .ref 110, .ref 30, .ref 40, .ref 50, .ref 60, .int kp])), (20, rO 0 ((rdE ty t).1.1) ((rdE ty t).1.2.1) ((rdE ty t).1.2.2) ((rdE ty t).2.1.1) ((rdE ty t).2.1.2)), (21, .inr (.inl (1, ty))), (25, hD ((rdE ty t).2.2)), (26, s4 2 ((rdE ty t).2.2)), (27, s4 6 ((rdE ty t).2.2)), (28, s4 10 ((rdE ty t).2.2)), (10, hO ((rdE ty t).2.2)), (11, s4 2 ((rdE ty t).2.2)), (12, s4 6 ((rdE ty t).2.2)), (13, s4 10 ((rdE ty t).2.2)), (100, sO 100 b sd), (101, s4 9 b), (102, s4 13 b), (103, s4 17 b), (104, s4 21 b), (30, .inl (3, [.ref 31, .int (pl9 1), .int (pl9 2), .int (pl9 3), .int (pl9 4), .int (pl9 5)])), (50, .inl (2, [.ref 10, .ref 51, .ref 52, .int mc, .ref 53, .ref 54, .ref 55]))])
  refine J.run (sn_X6_chamber F) 2 [] (S' := (35, [(0, .ref 0), (1, .int ((rdE ty t).1.2.2))], [.ref 100], [(0, .inl (6, [.ref 10, .ref 20, .ref 100, .ref 110, .ref 30, .ref 40, .ref 50, .ref 60, .int kp])), (20, rO 0 ((rdE ty t).1.1) ((rdE ty t).1.2.1) ((rdE ty t).1.2.2) ((rdE ty t).2.1.1) ((rdE ty t).2.1.2)), (21, .inr (.inl (1, ty))), (25, hD ((rdE ty t).2.2)), (26, s4 2 ((rdE ty t).2.2)), (27, s4 6 ((rdE ty t).2.2)), (28, s4 10 ((rdE ty t).2.2)), (10, hO ((rdE ty t).2.2)), (11, s4 2 ((rdE ty t).2.2)), (12, s4 6 ((rdE ty t).2.2)), (13, s4 10 ((rdE ty t).2.2)), (100, sO 100 b sd), (101, s4 9 b), (102, s4 13 b), (103, s4 17 b), (104, s4 21 b), (30, .inl (3, [.ref 31, .int (pl9 1), .int (pl9 2), .int (pl9 3), .int (pl9 4), .int (pl9 5)])), (50, .inl (2, [.ref 10, .ref 51, .ref 52, .int mc, .ref 53, .ref 54, .ref 55]))])) (ob := []) rfl (ob_n) ?_
  refine J.callVK F hJ lk_X6_80 im_X5_open se_X5_open (by decide +kernel) (c_open b sd ((rdE ty t).2.2)) (fun k => k) (by omega) [] [100, 101, 102, 103, 104, 10, 11, 12, 13] rfl rfl rfl rfl rfl rfl (by decide +kernel) rfl (by decide +kernel) (fun r ws' hk hp => ?_)
  obtain ⟨rfl, rfl⟩ := hp
  show J x 2 (ad, 0, 0) (38, [(0, .ref 0), (1, .int ((rdE ty t).1.2.2))], [], [(0, .inl (6, [.ref 10, .ref 20, .ref 100, .ref 110, .ref 30, .ref 40, .ref 50, .ref 60, .int kp])), (20, rO 0 ((rdE ty t).1.1) ((rdE ty t).1.2.1) ((rdE ty t).1.2.2) ((rdE ty t).2.1.1) ((rdE ty t).2.1.2)), (21, .inr (.inl (1, ty))), (25, hD ((rdE ty t).2.2)), (26, s4 2 ((rdE ty t).2.2)), (27, s4 6 ((rdE ty t).2.2)), (28, s4 10 ((rdE ty t).2.2)), (10, hO ((rdE ty t).2.2)), (11, s4 2 ((rdE ty t).2.2)), (12, s4 6 ((rdE ty t).2.2)), (13, s4 10 ((rdE ty t).2.2)), (100, sO 100 (opn ((rdE ty t).2.2)) sd), (101, s4 9 (opn ((rdE ty t).2.2))), (102, s4 13 (opn ((rdE ty t).2.2))), (103, s4 17 (opn ((rdE ty t).2.2))), (104, s4 21 (opn ((rdE ty t).2.2))), (30, .inl (3, [.ref 31, .int (pl9 1), .int (pl9 2), .int (pl9 3), .int (pl9 4), .int (pl9 5)])), (50, .inl (2, [.ref 10, .ref 51, .ref 52, .int mc, .ref 53, .ref 54, .ref 55]))])
  refine J.run (sn_X6_chamber F) 10 [] (S' := (56, [(0, .ref 0), (1, .int ((rdE ty t).1.2.2))], [.int 0, .ref 0], [(0, .inl (6, [.ref 10, .ref 20, .ref 100, .ref 110, .ref 30, .ref 40, .ref 50, .ref 60, .int kp])), (20, rO 0 ((rdE ty t).1.1) ((rdE ty t).1.2.1) ((rdE ty t).1.2.2) ((rdE ty t).2.1.1) ((rdE ty t).2.1.2)), (21, .inr (.inl (1, ty))), (25, hD ((rdE ty t).2.2)), (26, s4 2 ((rdE ty t).2.2)), (27, s4 6 ((rdE ty t).2.2)), (28, s4 10 ((rdE ty t).2.2)), (10, hO ((rdE ty t).2.2)), (11, s4 2 ((rdE ty t).2.2)), (12, s4 6 ((rdE ty t).2.2)), (13, s4 10 ((rdE ty t).2.2)), (100, sO 100 (opn ((rdE ty t).2.2)) sd), (101, s4 9 (opn ((rdE ty t).2.2))), (102, s4 13 (opn ((rdE ty t).2.2))), (103, s4 17 (opn ((rdE ty t).2.2))), (104, s4 21 (opn ((rdE ty t).2.2))), (30, .inl (3, [.ref 31, .int 0, .int (pl9 2), .int (pl9 3), .int (pl9 4), .int (pl9 5)])), (50, .inl (2, [.ref 10, .ref 51, .ref 52, .int 0, .ref 53, .ref 54, .ref 55]))])) (ob := []) rfl (ob_n) ?_
  refine J.run (sn_X6_chamber F) 4 [] (S' := (66, [(0, .ref 0), (1, .int ((rdE ty t).1.2.2))], [.int ((rdE ty t).2.2 0)], [(0, .inl (6, [.ref 10, .ref 20, .ref 100, .ref 110, .ref 30, .ref 40, .ref 50, .ref 60, .int 0])), (20, rO 0 ((rdE ty t).1.1) ((rdE ty t).1.2.1) ((rdE ty t).1.2.2) ((rdE ty t).2.1.1) ((rdE ty t).2.1.2)), (21, .inr (.inl (1, ty))), (25, hD ((rdE ty t).2.2)), (26, s4 2 ((rdE ty t).2.2)), (27, s4 6 ((rdE ty t).2.2)), (28, s4 10 ((rdE ty t).2.2)), (10, hO ((rdE ty t).2.2)), (11, s4 2 ((rdE ty t).2.2)), (12, s4 6 ((rdE ty t).2.2)), (13, s4 10 ((rdE ty t).2.2)), (100, sO 100 (opn ((rdE ty t).2.2)) sd), (101, s4 9 (opn ((rdE ty t).2.2))), (102, s4 13 (opn ((rdE ty t).2.2))), (103, s4 17 (opn ((rdE ty t).2.2))), (104, s4 21 (opn ((rdE ty t).2.2))), (30, .inl (3, [.ref 31, .int 0, .int (pl9 2), .int (pl9 3), .int (pl9 4), .int (pl9 5)])), (50, .inl (2, [.ref 10, .ref 51, .ref 52, .int 0, .ref 53, .ref 54, .ref 55]))])) (ob := []) rfl (ob_n) ?_
  exact J.iret F hR (Nat.le_refl _) (Nat.le_refl _) rfl rfl (by decide +kernel) ⟨rfl, keq [0, 20, 21, 25, 26, 27, 28, 10, 11, 12, 13, 100, 101, 102, 103, 104, 30, 50] rfl rfl, rfl, rfl⟩
