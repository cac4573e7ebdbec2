/-! small facts of single calls -/
def Plc (q : Nat × Int32 × Int32) : Prop := q.2.2 = 0 → q.2.1 = -1
theorem Plc_bl {c : Int32} {p : Nat} {q : Nat × Int32 × Int32} (h : Plc q) : Plc (blS c p q) := by
  intro hz
  obtain ⟨h1, h2⟩ := bF_both hz
  show bP q.2.2 c q.2.1 (nI p) = -1
  rw [h2, bP_0]
  exact h h1
theorem Plc_rn {ty : List Int32} {t : Nat} {lo hi : Int32} {q : Nat × Int32 × Int32} (h : Plc q) : Plc (rnS ty t lo hi q) := Plc_bl (q := (_, q.2)) h
theorem Plc_re {ty : List Int32} {t : Nat} {q : Nat × Int32 × Int32} (h : Plc q) : Plc (reS ty t q) := by
  unfold reS
  cases btw ty t (skq ty t 32 32 q.1) 59 59 with
  | true => exact h
  | false => exact Plc_bl (q := (_, q.2)) h
theorem Plc_rk {ty : List Int32} {t : Nat} {q : Nat × Int32 × Int32} (h : Plc q) : Plc (rkS ty t q) := by
  unfold rkS
  cases kdB ty (skq ty t 32 32 q.1) (skq ty t 97 122 (skq ty t 32 32 q.1)) with
  | true => exact h
  | false => exact Plc_bl (q := (_, q.2)) h
theorem Plc_q0 {c : Bool} {s : Nat} {q : Nat × Int32 × Int32} (h : Plc q) : Plc (q0S c s q) := by
  cases c with
  | true => exact h
  | false => exact Plc_bl h
theorem Plc_cl {ty : List Int32} {t : Nat} {C : Cs} (H : Plc C.1) : Plc (clS ty t C).1 := by
  obtain ⟨⟨s, pl, fd⟩, ⟨lt, ct⟩, h⟩ := C
  have hq : Plc (skq ty t 97 122 s, pl, fd) := H
  cases h0 : wdB ty s (skq ty t 97 122 s) 0 with
  | true => rw [clS_0 h0]; exact Plc_re (Plc_rn (Plc_rn (Plc_rn (Plc_q0 hq))))
  | false =>
    cases h1 : wdB ty s (skq ty t 97 122 s) 1 with
    | true => rw [clS_1 h0 h1]; exact Plc_re (Plc_rn (Plc_rn (Plc_rk (Plc_q0 hq))))
    | false =>
      cases h2 : wdB ty s (skq ty t 97 122 s) 2 with
      | true => rw [clS_2 h0 h1 h2]; exact Plc_re (Plc_rn (Plc_q0 hq))
      | false => rw [clS_3 h0 h1 h2]; exact Plc_bl hq
theorem Plc_rdL {ty : List Int32} {t : Nat} (k : Nat) : ∀ {C : Cs}, Plc C.1 → Plc (rdL ty t k C).1 := by
  induction k with
  | zero => exact fun h => h
  | succ k ih =>
    intro C h
    by_cases e : C.1.1 < t ∧ C.1.2.2 = 0
    · rw [rdL_t e.1 e.2]; exact ih (C := skC ty t (clS ty t C)) (Plc_cl (C := C) h)
    · rw [rdL_f e]; exact h
theorem rdE_pl {ty : List Int32} {t : Nat} (h : (rdE ty t).1.2.2 = 0) : (rdE ty t).1.2.1 = -1 := Plc_rdL 400 (fun _ => rfl) h
theorem imB_nle {m n : Int32} (h : imB m n = true) : ¬ n ≤ m := by
  obtain ⟨h1, h2⟩ := Bool.and_eq_true_iff.mp h
  obtain ⟨h2, h3⟩ := Bool.and_eq_true_iff.mp h2
  exact of_decide_eq_false (Bool.not_eq_true' _ ▸ h3)
theorem in_m1 {n : Nat} (hn : n ≤ 4) : inB (-1) (-1) (nI n - 1) = true := (by decide +kernel : ∀ n, n < 5 → inB (-1) (-1) (nI n - 1) = true) n (by omega)
theorem m1_lt {m : Int32} (h : m < 0) (h1 : ¬ m = -1) : m < -1 := by
  have e1 : m.toInt < 0 := Int32.lt_iff_toInt_lt.mp h
  refine Int32.lt_iff_toInt_lt.mpr ?_
  have e2 : (-1 : Int32).toInt = -1 := by decide
  rw [e2]
  have e3 : m.toInt ≠ -1 := fun q => h1 (Int32.toInt_inj.mp (by rw [q, e2]))
  omega
theorem run_in {m u : Int32} (h : inB m 0 u = false) (h1 : ¬ m = -1) : inB m (-1) u = false := by
  rcases inB_sp h with q | ⟨-, q⟩
  · exact inB_lo (m1_lt q h1)
  · exact inB_hi q
theorem in_wk {m u : Int32} (h : inB m 0 u = true) : inB m (-1) u = true := by
  obtain ⟨h1, h2⟩ := inB_b h
  refine inB_ok (fun q => h1 ?_) h2
  exact Int32.lt_trans q (by decide)
theorem kp_0 (k0 k1 : Bool) : kpI k0 k1 ||| ((1 : Int32) <<< ((0 : Int32) &&& 31)) = kpI true k1 := by cases k0 <;> cases k1 <;> decide
theorem kp_1 (k0 k1 : Bool) : kpI k0 k1 ||| ((1 : Int32) <<< ((1 : Int32) &&& 31)) = kpI k0 true := by cases k0 <;> cases k1 <;> decide
theorem kp_h0 (k0 k1 : Bool) : hB (kpI k0 k1) 0 = k0 := by cases k0 <;> cases k1 <;> decide
theorem kp_h1 (k0 k1 : Bool) : hB (kpI k0 k1) 1 = k1 := by cases k0 <;> cases k1 <;> decide
theorem gi_set_o {l : List Int32} {c i : Nat} {v : Int32} (h : ¬ i = c) : gi (l.set c v) i = gi l i := by
  rw [gi_eq, gi_eq, List.getD_eq_getElem?_getD, List.getD_eq_getElem?_getD, List.getElem?_set_ne (Ne.symm h)]
theorem gi_set_s {l : List Int32} {c : Nat} {v : Int32} (h : c < l.length) : gi (l.set c v) c = v := by
  rw [gi_eq, List.getD_eq_getElem?_getD, List.getElem?_set_self h]
  rfl
theorem Rc_set {gs ls : List Int32} {c : Nat} (H : Rc gs ls c) (hg : gs.length = 7) (hl : ls.length = 7) (hc : c < 7) {p q : Int32} (hp : inB p 0 9 = true) (hq : inB q 1 4 = true) : Rc (gs.set c p) (ls.set c q) (c + 1) := by
  refine ⟨fun i hi => ?_, fun i hi => ?_⟩
  · by_cases e : i = c
    · subst e
      obtain ⟨j, -, h2, h3⟩ := inB_ex (l := 0) (u := 9) (by decide) (by decide) hp
      exact ⟨j, h2, by rw [gi_set_s (by omega)]; exact h3⟩
    · rw [gi_set_o e]; exact H.1 i (by omega)
  · by_cases e : i = c
    · subst e
      obtain ⟨j, h1, h2, h3⟩ := inB_ex (l := 1) (u := 4) (by decide) (by decide) hq
      exact ⟨j, h1, h2, by rw [gi_set_s (by omega)]; exact h3⟩
    · rw [gi_set_o e]; exact H.2 i (by omega)
theorem c_planG (kp : Int32) (z h : Nat → Int32) (ps : List Int32) (n : Nat) (hn : n = 30) (s : Int32) (hA : amB s (h 0) = true) : Ctr mk_X6_plan 3 [.ref 0, .int s] [(0, .inl (6, [.ref 10, .ref 20, .ref 100, .ref 110, .ref 30, .ref 40, .ref 50, .ref 60, .int kp])), (30, .inl (3, [.ref 31, .int (nI n), .int (z 0), .int (z 1), .int (z 2), .int (z 3)])), (31, .inr (.inl (0, ps))), (10, hO h)] (fun r u => r = some (.int (-1000000004)) ∧ u = [(0, .inl (6, [.ref 10, .ref 20, .ref 100, .ref 110, .ref 30, .ref 40, .ref 50, .ref 60, .int kp])), (30, .inl (3, [.ref 31, .int (nI n), .int (z 0), .int (z 1), .int (z 2), .int (z 3)])), (31, .inr (.inl (0, ps))), (10, hO h)]) := by subst hn; exact c_plan_F kp z h ps s hA
theorem c_mplanG (z h : Nat → Int32) (ps : List Int32) (n : Nat) (hn : n = 30) (s : Int32) (hS : inB s 0 (((1 : Int32) <<< ((h 0) &&& 31)) - 1) = true) : Ctr mk_X7_plan 3 [.ref 500, .int s] [(500, mO (zp z n)), (502, a14 h), (510, .inr (.inl (0, ps)))] (fun r u => r = some (.int (-1000000004)) ∧ u = [(500, mO (zp z n)), (502, a14 h), (510, .inr (.inl (0, ps)))]) := by subst hn; exact c_mplan_F z h ps s hS
theorem c_recG (kp : Int32) (gs ls : List Int32) (p q : Int32) (c : Nat) (hc : c = 7) (h0 : ¬ p < 0) (h1 : ¬ 9 < p) (h2 : ¬ q < 1) (h3 : ¬ 4 < q) : Ctr mk_X6_record 2 [.ref 0, .int p, .int q] [(0, .inl (6, [.ref 10, .ref 20, .ref 100, .ref 110, .ref 30, .ref 40, .ref 50, .ref 60, .int kp])), (50, .inl (2, [.ref 10, .ref 51, .ref 52, .int (nI c), .ref 53, .ref 54, .ref 55])), (51, .inr (.inl (0, gs))), (52, .inr (.inl (0, ls)))] (fun r u => r = some (.int (-1000000004)) ∧ u = [(0, .inl (6, [.ref 10, .ref 20, .ref 100, .ref 110, .ref 30, .ref 40, .ref 50, .ref 60, .int kp])), (50, .inl (2, [.ref 10, .ref 51, .ref 52, .int (nI c), .ref 53, .ref 54, .ref 55])), (51, .inr (.inl (0, gs))), (52, .inr (.inl (0, ls)))]) := by subst hc; exact c_recF kp gs ls p q h0 h1 h2 h3
def zc (z : Nat → Int32) (c : Nat) : Nat → Int32 := fun k => bif Nat.beq k 14 then nI c else z k
theorem c_mrecG (z : Nat → Int32) (gs ls : List Int32) (c : Nat) (hc : c = 7) (p q : Int32) (hP : inB p 0 9 = true) (hQ : inB q 1 4 = true) : Ctr mk_X7_record 2 [.ref 500, .int p, .int q] [(500, mO (zc z c)), (511, .inr (.inl (0, gs))), (512, .inr (.inl (0, ls)))] (fun r u => r = some (.int (-1000000004)) ∧ u = [(500, mO (zc z c)), (511, .inr (.inl (0, gs))), (512, .inr (.inl (0, ls)))]) := by subst hc; exact c_mrecF z gs ls p q hP hQ
theorem c_mbk0F (z b p q : Nat → Int32) (s0 s1 k1 : Int32) (k : Bool) (hk : k = false) : Ctr mk_X7_goBack 2 [.ref 500, .int 0] [(500, mO z), (505, a28 b), (507, a56 p q), (508, .inr (.inl (0, [s0, s1]))), (509, .inr (.inl (2, [kbI k, k1])))] (fun r u => r = some (.int (-1000000003)) ∧ u = [(500, mO z), (505, a28 b), (507, a56 p q), (508, .inr (.inl (0, [s0, s1]))), (509, .inr (.inl (2, [kbI k, k1])))]) := by subst hk; exact c_mback0_0 z b p q s0 s1 0 k1
theorem c_mbk0T (z b p q : Nat → Int32) (s0 s1 k1 : Int32) (k : Bool) (hk : k = true) : Ctr mk_X7_goBack 2 [.ref 500, .int 0] [(500, mO z), (505, a28 b), (507, a56 p q), (508, .inr (.inl (0, [s0, s1]))), (509, .inr (.inl (2, [kbI k, k1])))] (fun r u => r = some (.int 1) ∧ u = [(500, mOq z s0), (505, a28 p), (507, a56 p q), (508, .inr (.inl (0, [s0, s1]))), (509, .inr (.inl (2, [kbI k, k1])))]) := by subst hk; exact c_mback0_1 z b p q s0 s1 0 k1
theorem c_mbk1F (z b p q : Nat → Int32) (s0 s1 k0 : Int32) (k : Bool) (hk : k = false) : Ctr mk_X7_goBack 2 [.ref 500, .int 1] [(500, mO z), (505, a28 b), (507, a56 p q), (508, .inr (.inl (0, [s0, s1]))), (509, .inr (.inl (2, [k0, kbI k])))] (fun r u => r = some (.int (-1000000003)) ∧ u = [(500, mO z), (505, a28 b), (507, a56 p q), (508, .inr (.inl (0, [s0, s1]))), (509, .inr (.inl (2, [k0, kbI k])))]) := by subst hk; exact c_mback1_0 z b p q s0 s1 k0 0
theorem c_mbk1T (z b p q : Nat → Int32) (s0 s1 k0 : Int32) (k : Bool) (hk : k = true) : Ctr mk_X7_goBack 2 [.ref 500, .int 1] [(500, mO z), (505, a28 b), (507, a56 p q), (508, .inr (.inl (0, [s0, s1]))), (509, .inr (.inl (2, [k0, kbI k])))] (fun r u => r = some (.int 1) ∧ u = [(500, mOq z s1), (505, a28 q), (507, a56 p q), (508, .inr (.inl (0, [s0, s1]))), (509, .inr (.inl (2, [k0, kbI k])))]) := by subst hk; exact c_mback1_1 z b p q s0 s1 k0 0
theorem le_of1 {x : Int32} (h : 1 < x) : (2 : Int32) ≤ x := by
  have h1 := Int32.lt_iff_toInt_lt.mp h
  refine Int32.le_iff_toInt_le.mpr ?_
  have e1 : (1 : Int32).toInt = 1 := by decide
  have e2 : (2 : Int32).toInt = 2 := by decide
  omega
