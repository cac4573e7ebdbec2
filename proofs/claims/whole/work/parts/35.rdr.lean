def rO (t a : Nat) (pl fd lt ct : Int32) : Pe := .inl (4, [.ref 25, .int (nI t), .int pl, .ref 21, .int (nI a), .int fd, .int lt, .int ct])
def hD (h : Nat → Int32) : Pe := .inl (1, [.ref 26, .ref 27, .ref 28, .int (h 0), .int (h 14), .int (h 15), .int (h 16), .int (h 1)])
def btw (ty : List Int32) (t a : Nat) (lo hi : Int32) : Bool := decide (a < t) && (!decide (gi ty a < lo) && !decide (hi < gi ty a))
def skp (p : Nat → Bool) : Nat → Nat → Nat
  | 0, a => a
  | k + 1, a => bif p a then skp p k (a + 1) else a
def skq (ty : List Int32) (t : Nat) (lo hi : Int32) (a : Nat) : Nat := skp (fun k => btw ty t k lo hi) (t - a) a
theorem skp_ge (p : Nat → Bool) (k a : Nat) : a ≤ skp p k a := by
  induction k generalizing a with
  | zero => exact Nat.le_refl a
  | succ k ih =>
    unfold skp
    cases p a
    · exact Nat.le_refl a
    · exact Nat.le_trans (Nat.le_succ a) (ih (a + 1))
theorem skp_le (p : Nat → Bool) (k a : Nat) : skp p k a ≤ a + k := by
  induction k generalizing a with
  | zero => exact Nat.le_refl a
  | succ k ih =>
    unfold skp
    cases p a
    · exact Nat.le_add_right a _
    · exact Nat.le_trans (ih (a + 1)) (by omega)
theorem skq_ge (ty : List Int32) (t : Nat) (lo hi : Int32) (a : Nat) : a ≤ skq ty t lo hi a := skp_ge _ _ _
theorem skq_le {ty : List Int32} {t : Nat} {lo hi : Int32} {a : Nat} (h : a ≤ t) : skq ty t lo hi a ≤ t := by
  have := skp_le (fun k => btw ty t k lo hi) (t - a) a
  unfold skq
  omega
theorem skp_t {p : Nat → Bool} {k a : Nat} (h : p a = true) : skp p (k + 1) a = skp p k (a + 1) := by
  show (bif p a then skp p k (a + 1) else a) = _
  rw [h]; rfl
theorem skp_f {p : Nat → Bool} {k a : Nat} (h : p a = false) : skp p (k + 1) a = a := by
  show (bif p a then skp p k (a + 1) else a) = _
  rw [h]; rfl
def bF (fd c : Int32) : Int32 := if fd = 0 then c else fd
def bP (fd c pl p : Int32) : Int32 := if fd = 0 then (if c = 0 then pl else p) else pl
def blS (c : Int32) (p : Nat) (q : Nat × Int32 × Int32) : Nat × Int32 × Int32 := (q.1, bP q.2.2 c q.2.1 (nI p), bF q.2.2 c)
theorem bF_0 (fd : Int32) : bF fd 0 = fd := by
  unfold bF
  by_cases h : fd = 0
  · rw [if_pos h, h]
  · rw [if_neg h]
theorem bP_0 (fd pl p : Int32) : bP fd 0 pl p = pl := by
  unfold bP
  rw [if_pos rfl]
  by_cases h : fd = 0
  · rw [if_pos h]
  · rw [if_neg h]
def m3 (k : Nat) : Nat := if k < 3 then k else 3
def nmV (ty : List Int32) (s : Nat) : Nat → Int32
  | 0 => 0
  | k + 1 => 10 * nmV ty s k + gi ty (s + k) - 48
theorem nmV_s (ty : List Int32) (s k : Nat) : nmV ty s (k + 1) = 10 * nmV ty s k + gi ty (s + k) - 48 := rfl
def rnC (v lo hi : Int32) (s e : Nat) : Int32 := if e = s then 1 else if 3 < e - s then 2 else if v < lo then 2 else if hi < v then 2 else 0
def rnv (ty : List Int32) (t a : Nat) : Int32 := nmV ty (skq ty t 32 32 a) (m3 (skq ty t 48 57 (skq ty t 32 32 a) - skq ty t 32 32 a))
def rnS (ty : List Int32) (t : Nat) (lo hi : Int32) (q : Nat × Int32 × Int32) : Nat × Int32 × Int32 := blS (rnC (rnv ty t q.1) lo hi (skq ty t 32 32 q.1) (skq ty t 48 57 (skq ty t 32 32 q.1))) (skq ty t 32 32 q.1) (skq ty t 48 57 (skq ty t 32 32 q.1), q.2)
theorem nI_sub {a b : Nat} (h : b ≤ a) : nI a - nI b = nI (a - b) := by
  show Int32.ofNat a - Int32.ofNat b = Int32.ofNat (a - b)
  rw [← Int32.ofNat_sub _ _ h]
set_option maxHeartbeats 4000000 in
set_option maxRecDepth 100000 in
theorem c_isB (ty : List Int32) (hty : ty.length = 400) (t : Nat) (ht : t ≤ 400) (a : Nat) (ha : a ≤ t) (pl fd lt ct : Int32) (lo hi : Int32) : Ctr mk_X4_isBetween 1 [.ref 20, .int lo, .int hi] [(20, rO t a pl fd lt ct), (21, .inr (.inl (1, ty)))] (fun r u => r = some (.int (b2i (btw ty t a lo hi))) ∧ u = [(20, rO t a pl fd lt ct), (21, .inr (.inl (1, ty)))]) := by
  refine Ctr.of rfl (Nat.le_of_ble_eq_true rfl) ?_
  intro x ad F hJ hR
  by_cases hat : a < t
  · skip
    refine J.run (sn_X4_isBetween F) 10 [0, 0] (S' := (22, [(0, .ref 20), (1, .int lo), (2, .int hi)], [.int (nI a)], [(20, rO t a pl fd lt ct), (21, .inr (.inl (1, ty)))])) (ob := [¬ (nI a) < 0, ¬ (nI t) ≤ (nI a)]) rfl (ob_c (n_nlt0 (by omega)) (ob_c (n_nle (by omega) (by omega) hat) ob_n)) ?_
    by_cases h1 : (gi ty a) < lo
    · skip
      refine J.run (sn_X4_isBetween F) 10 [0, a, 1] (S' := (59, [(0, .ref 20), (1, .int lo), (2, .int hi)], [.int 0], [(20, rO t a pl fd lt ct), (21, .inr (.inl (1, ty)))])) (ob := [¬ 400 ≤ (nI a), ix (nI a) a ty.length, (gi ty a) < lo]) rfl (ob_c (n_nle (a := 400) (by omega) (by omega) (by omega)) (ob_c (ix_len hty (ix_nI (by omega) (by decide))) (ob_c h1 ob_n))) ?_
      exact J.iret F hR (Nat.le_refl _) (Nat.le_refl _) rfl rfl (by decide +kernel) ⟨rfl, keq [20, 21] rfl rfl, by simp only [btw, hat, h1, f_lt h1, ↓reduceIte, ite_self, Bool.false_eq_true, cond_true, cond_false, Bool.true_and, Bool.false_and, Bool.and_true, Bool.and_false, Bool.true_or, Bool.false_or, Bool.or_true, Bool.or_false, Bool.not_true, Bool.not_false, decide_true, decide_false, b2i_t, b2i_f], rfl⟩
    · skip
      refine J.run (sn_X4_isBetween F) 10 [0, a, 0] (S' := (42, [(0, .ref 20), (1, .int lo), (2, .int hi)], [.ref 20], [(20, rO t a pl fd lt ct), (21, .inr (.inl (1, ty)))])) (ob := [¬ 400 ≤ (nI a), ix (nI a) a ty.length, ¬ (gi ty a) < lo]) rfl (ob_c (n_nle (a := 400) (by omega) (by omega) (by omega)) (ob_c (ix_len hty (ix_nI (by omega) (by decide))) (ob_c h1 ob_n))) ?_
      by_cases h2 : hi < (gi ty a)
      · skip
        refine J.run (sn_X4_isBetween F) 7 [a, 1] (S' := (59, [(0, .ref 20), (1, .int lo), (2, .int hi)], [.int 0], [(20, rO t a pl fd lt ct), (21, .inr (.inl (1, ty)))])) (ob := [ix (nI a) a ty.length, hi < (gi ty a)]) rfl (ob_c (ix_len hty (ix_nI (by omega) (by decide))) (ob_c h2 ob_n)) ?_
        exact J.iret F hR (Nat.le_refl _) (Nat.le_refl _) rfl rfl (by decide +kernel) ⟨rfl, keq [20, 21] rfl rfl, by simp only [btw, hat, h1, f_nlt h1, h2, f_lt h2, ↓reduceIte, ite_self, Bool.false_eq_true, cond_true, cond_false, Bool.true_and, Bool.false_and, Bool.and_true, Bool.and_false, Bool.true_or, Bool.false_or, Bool.or_true, Bool.or_false, Bool.not_true, Bool.not_false, decide_true, decide_false, b2i_t, b2i_f], rfl⟩
      · skip
        refine J.run (sn_X4_isBetween F) 8 [a, 0] (S' := (59, [(0, .ref 20), (1, .int lo), (2, .int hi)], [.int 1], [(20, rO t a pl fd lt ct), (21, .inr (.inl (1, ty)))])) (ob := [ix (nI a) a ty.length, ¬ hi < (gi ty a)]) rfl (ob_c (ix_len hty (ix_nI (by omega) (by decide))) (ob_c h2 ob_n)) ?_
        exact J.iret F hR (Nat.le_refl _) (Nat.le_refl _) rfl rfl (by decide +kernel) ⟨rfl, keq [20, 21] rfl rfl, by simp only [btw, hat, h1, f_nlt h1, h2, f_nlt h2, ↓reduceIte, ite_self, Bool.false_eq_true, cond_true, cond_false, Bool.true_and, Bool.false_and, Bool.and_true, Bool.and_false, Bool.true_or, Bool.false_or, Bool.or_true, Bool.or_false, Bool.not_true, Bool.not_false, decide_true, decide_false, b2i_t, b2i_f], rfl⟩
  · skip
    refine J.run (sn_X4_isBetween F) 9 [0, 1] (S' := (59, [(0, .ref 20), (1, .int lo), (2, .int hi)], [.int 0], [(20, rO t a pl fd lt ct), (21, .inr (.inl (1, ty)))])) (ob := [¬ (nI a) < 0, (nI t) ≤ (nI a)]) rfl (ob_c (n_nlt0 (by omega)) (ob_c (n_le (by omega) (by omega) (by omega)) ob_n)) ?_
    exact J.iret F hR (Nat.le_refl _) (Nat.le_refl _) rfl rfl (by decide +kernel) ⟨rfl, keq [20, 21] rfl rfl, by simp only [btw, hat, ↓reduceIte, ite_self, Bool.false_eq_true, cond_true, cond_false, Bool.true_and, Bool.false_and, Bool.and_true, Bool.and_false, Bool.true_or, Bool.false_or, Bool.or_true, Bool.or_false, Bool.not_true, Bool.not_false, decide_true, decide_false, b2i_t, b2i_f], rfl⟩
set_option maxHeartbeats 4000000 in
set_option maxRecDepth 100000 in
theorem c_skipBlanks (ty : List Int32) (hty : ty.length = 400) (t : Nat) (ht : t ≤ 400) (a : Nat) (ha : a ≤ t) (pl fd lt ct : Int32) : Ctr mk_X4_skipBlanks 2 [.ref 20] [(20, rO t a pl fd lt ct), (21, .inr (.inl (1, ty)))] (fun r u => r = none ∧ u = [(20, rO t (skq ty t 32 32 a) pl fd lt ct), (21, .inr (.inl (1, ty)))]) := by
  refine Ctr.of rfl (Nat.le_of_ble_eq_true rfl) ?_
  intro x ad F hJ hR
  have H : ∀ n k : Nat, k + n = t → skp (fun k => btw ty t k 32 32) n k = skq ty t 32 32 a → J x 1 (ad, 0, 0) (0, [(0, .ref 20)], [], [(20, rO t k pl fd lt ct), (21, .inr (.inl (1, ty)))]) := by
    intro n
    induction n with
    | zero =>
      intro k hk hQ
      have e9 : skq ty t 32 32 a = k := hQ.symm
      refine J.run (sn_X4_skipBlanks F) 5 [1] (S' := (35, [(0, .ref 20)], [], [(20, rO t k pl fd lt ct), (21, .inr (.inl (1, ty)))])) (ob := [(nI t) ≤ (nI k)]) rfl (ob_c (n_le (by omega) (by omega) (by omega)) ob_n) ?_
      exact J.vret F hR (Nat.le_refl _) (Nat.le_refl _) rfl (by decide +kernel) ⟨rfl, keq [20, 21] rfl rfl, rfl, by rw [e9]⟩
    | succ n ih =>
      intro k hk hQ
      refine J.run (sn_X4_skipBlanks F) 8 [0] (S' := (16, [(0, .ref 20)], [.int 32, .int 32, .ref 20], [(20, rO t k pl fd lt ct), (21, .inr (.inl (1, ty)))])) (ob := [¬ (nI t) ≤ (nI k)]) rfl (ob_c (n_nle (by omega) (by omega) (by omega)) ob_n) ?_
      refine J.callV F hJ lk_X4_113 im_X4_isBetween se_X4_isBetween (by decide +kernel) (c_isB ty hty t ht k (by omega) pl fd lt ct 32 32) (fun k => k) (by omega) [] rfl rfl rfl rfl rfl (by decide) rfl (show List.Nodup [20, 21] by decide) (fun r ws' hk hp => ?_)
      obtain ⟨rfl, rfl⟩ := hp
      show J x 1 (ad, 0, 0) (19, [(0, .ref 20)], [.int (b2i (btw ty t k 32 32))], [(20, rO t k pl fd lt ct), (21, .inr (.inl (1, ty)))])
      cases hb1 : btw ty t k 32 32
      · skip
        refine J.run (sn_X4_skipBlanks F) 1 [1] (S' := (35, [(0, .ref 20)], [], [(20, rO t k pl fd lt ct), (21, .inr (.inl (1, ty)))])) (ob := [(0 : Int32) = 0]) rfl (ob_c (by decide) ob_n) ?_
        exact J.vret F hR (Nat.le_refl _) (Nat.le_refl _) rfl (by decide +kernel) ⟨rfl, keq [20, 21] rfl rfl, rfl, by rw [← hQ, skp_f (p := fun k => btw ty t k 32 32) hb1]⟩
      · skip
        refine J.run (sn_X4_skipBlanks F) 8 [0] (S' := (0, [(0, .ref 20)], [], [(20, .inl (4, [.ref 25, .int (nI t), .int pl, .ref 21, .int ((nI k) + 1), .int fd, .int lt, .int ct])), (21, .inr (.inl (1, ty)))])) (ob := [¬ (1 : Int32) = 0]) rfl (ob_c (by decide) ob_n) ?_
        exact J.cast (ih (k + 1) (by omega) ((skp_t (p := fun k => btw ty t k 32 32) hb1).symm.trans hQ)) (by simp only [nI_1, rO])
  exact H (t - a) a (by omega) rfl
set_option maxHeartbeats 4000000 in
set_option maxRecDepth 100000 in
theorem c_skipWord (ty : List Int32) (hty : ty.length = 400) (t : Nat) (ht : t ≤ 400) (a : Nat) (ha : a ≤ t) (pl fd lt ct : Int32) : Ctr mk_X4_skipWord 2 [.ref 20] [(20, rO t a pl fd lt ct), (21, .inr (.inl (1, ty)))] (fun r u => r = none ∧ u = [(20, rO t (skq ty t 97 122 a) pl fd lt ct), (21, .inr (.inl (1, ty)))]) := by
  refine Ctr.of rfl (Nat.le_of_ble_eq_true rfl) ?_
  intro x ad F hJ hR
  have H : ∀ n k : Nat, k + n = t → skp (fun k => btw ty t k 97 122) n k = skq ty t 97 122 a → J x 1 (ad, 0, 0) (0, [(0, .ref 20)], [], [(20, rO t k pl fd lt ct), (21, .inr (.inl (1, ty)))]) := by
    intro n
    induction n with
    | zero =>
      intro k hk hQ
      have e9 : skq ty t 97 122 a = k := hQ.symm
      refine J.run (sn_X4_skipWord F) 5 [1] (S' := (35, [(0, .ref 20)], [], [(20, rO t k pl fd lt ct), (21, .inr (.inl (1, ty)))])) (ob := [(nI t) ≤ (nI k)]) rfl (ob_c (n_le (by omega) (by omega) (by omega)) ob_n) ?_
      exact J.vret F hR (Nat.le_refl _) (Nat.le_refl _) rfl (by decide +kernel) ⟨rfl, keq [20, 21] rfl rfl, rfl, by rw [e9]⟩
    | succ n ih =>
      intro k hk hQ
      refine J.run (sn_X4_skipWord F) 8 [0] (S' := (16, [(0, .ref 20)], [.int 122, .int 97, .ref 20], [(20, rO t k pl fd lt ct), (21, .inr (.inl (1, ty)))])) (ob := [¬ (nI t) ≤ (nI k)]) rfl (ob_c (n_nle (by omega) (by omega) (by omega)) ob_n) ?_
      refine J.callV F hJ lk_X4_113 im_X4_isBetween se_X4_isBetween (by decide +kernel) (c_isB ty hty t ht k (by omega) pl fd lt ct 97 122) (fun k => k) (by omega) [] rfl rfl rfl rfl rfl (by decide) rfl (show List.Nodup [20, 21] by decide) (fun r ws' hk hp => ?_)
      obtain ⟨rfl, rfl⟩ := hp
      show J x 1 (ad, 0, 0) (19, [(0, .ref 20)], [.int (b2i (btw ty t k 97 122))], [(20, rO t k pl fd lt ct), (21, .inr (.inl (1, ty)))])
      cases hb1 : btw ty t k 97 122
      · skip
        refine J.run (sn_X4_skipWord F) 1 [1] (S' := (35, [(0, .ref 20)], [], [(20, rO t k pl fd lt ct), (21, .inr (.inl (1, ty)))])) (ob := [(0 : Int32) = 0]) rfl (ob_c (by decide) ob_n) ?_
        exact J.vret F hR (Nat.le_refl _) (Nat.le_refl _) rfl (by decide +kernel) ⟨rfl, keq [20, 21] rfl rfl, rfl, by rw [← hQ, skp_f (p := fun k => btw ty t k 97 122) hb1]⟩
      · skip
        refine J.run (sn_X4_skipWord F) 8 [0] (S' := (0, [(0, .ref 20)], [], [(20, .inl (4, [.ref 25, .int (nI t), .int pl, .ref 21, .int ((nI k) + 1), .int fd, .int lt, .int ct])), (21, .inr (.inl (1, ty)))])) (ob := [¬ (1 : Int32) = 0]) rfl (ob_c (by decide) ob_n) ?_
        exact J.cast (ih (k + 1) (by omega) ((skp_t (p := fun k => btw ty t k 97 122) hb1).symm.trans hQ)) (by simp only [nI_1, rO])
  exact H (t - a) a (by omega) rfl
set_option maxHeartbeats 4000000 in
set_option maxRecDepth 100000 in
theorem c_blame (t a : Nat) (pl fd lt ct c p : Int32) (hc : ¬ c = 0) : Ctr mk_X4_blame 1 [.ref 20, .int c, .int p] [(20, rO t a pl fd lt ct)] (fun r u => r = none ∧ u = [(20, rO t a (bP fd c pl p) (bF fd c) lt ct)]) := by
  refine Ctr.of rfl (Nat.le_of_ble_eq_true rfl) ?_
  intro x ad F hJ hR
  by_cases h1 : fd = 0
  · skip
    refine J.run (sn_X4_blame F) 9 [0] (S' := (17, [(0, .ref 20), (1, .int c), (2, .int p)], [], [(20, .inl (4, [.ref 25, .int (nI t), .int p, .ref 21, .int (nI a), .int c, .int lt, .int ct]))])) (ob := [fd = 0]) rfl (ob_c h1 ob_n) ?_
    exact J.vret F hR (Nat.le_refl _) (Nat.le_refl _) rfl (by decide +kernel) ⟨rfl, keq [20] rfl rfl, rfl, by simp only [rO, bF, bP, eq_true h1, hc, ↓reduceIte, ite_self, Bool.false_eq_true, cond_true, cond_false, Bool.true_and, Bool.false_and, Bool.and_true, Bool.and_false, Bool.true_or, Bool.false_or, Bool.or_true, Bool.or_false, Bool.not_true, Bool.not_false, decide_true, decide_false, b2i_t, b2i_f]⟩
  · skip
    refine J.run (sn_X4_blame F) 3 [1] (S' := (17, [(0, .ref 20), (1, .int c), (2, .int p)], [], [(20, rO t a pl fd lt ct)])) (ob := [¬ fd = 0]) rfl (ob_c h1 ob_n) ?_
    exact J.vret F hR (Nat.le_refl _) (Nat.le_refl _) rfl (by decide +kernel) ⟨rfl, keq [20] rfl rfl, rfl, by simp only [rO, bF, bP, h1, hc, ↓reduceIte, ite_self, Bool.false_eq_true, cond_true, cond_false, Bool.true_and, Bool.false_and, Bool.and_true, Bool.and_false, Bool.true_or, Bool.false_or, Bool.or_true, Bool.or_false, Bool.not_true, Bool.not_false, decide_true, decide_false, b2i_t, b2i_f]⟩
set_option maxHeartbeats 4000000 in
set_option maxRecDepth 100000 in
theorem c_rnum (ty : List Int32) (hty : ty.length = 400) (t : Nat) (ht : t ≤ 400) (a : Nat) (ha : a ≤ t) (pl fd lt ct : Int32) (lo hi : Int32) : Ctr mk_X4_readNumber 3 [.ref 20, .int lo, .int hi] [(20, rO t a pl fd lt ct), (21, .inr (.inl (1, ty)))] (fun r u => r = some (.int (rnv ty t a)) ∧ u = [(20, rO t ((rnS ty t lo hi (a, pl, fd)).1) ((rnS ty t lo hi (a, pl, fd)).2.1) ((rnS ty t lo hi (a, pl, fd)).2.2) lt ct), (21, .inr (.inl (1, ty)))]) := by
  refine Ctr.of rfl (Nat.le_of_ble_eq_true rfl) ?_
  intro x ad F hJ hR
  have hs : (skq ty t 32 32 a) ≤ t := skq_le ha
  have hse : (skq ty t 32 32 a) ≤ (skq ty t 48 57 (skq ty t 32 32 a)) := skq_ge _ _ _ _ _
  have het : (skq ty t 48 57 (skq ty t 32 32 a)) ≤ t := skq_le hs
  generalize hS : (skq ty t 32 32 a) = s at *
  generalize hE : skq ty t 48 57 s = e at *
  have rv : rnv ty t a = nmV ty s (m3 (e - s)) := by unfold rnv; rw [hS, hE]
  have rS : (rnS ty t lo hi (a, pl, fd)) = blS (rnC (nmV ty s (m3 (e - s))) lo hi s e) s (e, pl, fd) := by unfold rnS; rw [rv]; show blS (rnC _ lo hi (skq ty t 32 32 a) (skq ty t 48 57 (skq ty t 32 32 a))) (skq ty t 32 32 a) (skq ty t 48 57 (skq ty t 32 32 a), pl, fd) = _; rw [hS, hE]
  have H77 : J x 5 (ad, 0, 0) (77, [(0, .ref 20), (1, .int lo), (2, .int hi), (3, .int (nI s)), (4, .int (nmV ty s (m3 (e - s))))], [], [(20, rO t e pl fd lt ct), (21, .inr (.inl (1, ty)))]) := by
    by_cases he : e = s
    · skip
      refine J.run (sn_X4_readNumber F) 7 [0] (S' := (88, [(0, .ref 20), (1, .int lo), (2, .int hi), (3, .int (nI s)), (4, .int (nmV ty s (m3 (e - s))))], [.int (nI s), .int 1, .ref 20], [(20, rO t e pl fd lt ct), (21, .inr (.inl (1, ty)))])) (ob := [(nI e) = (nI s)]) rfl (ob_c (by rw [he]) ob_n) ?_
      refine J.callV F hJ lk_X4_74 im_X4_blame se_X4_blame (by decide +kernel) (c_blame t e pl fd lt ct 1 (nI s) (by decide)) (fun k => k) (by omega) [] rfl rfl rfl rfl rfl (by decide) rfl (show List.Nodup [20] by decide) (fun r ws' hk hp => ?_)
      obtain ⟨rfl, rfl⟩ := hp
      show J x 5 (ad, 0, 0) (91, [(0, .ref 20), (1, .int lo), (2, .int hi), (3, .int (nI s)), (4, .int (nmV ty s (m3 (e - s))))], [], [(20, rO t e (bP fd 1 pl (nI s)) (bF fd 1) lt ct), (21, .inr (.inl (1, ty)))])
      refine J.run (sn_X4_readNumber F) 2 [] (S' := (124, [(0, .ref 20), (1, .int lo), (2, .int hi), (3, .int (nI s)), (4, .int (nmV ty s (m3 (e - s))))], [.int (nmV ty s (m3 (e - s)))], [(20, rO t e (bP fd 1 pl (nI s)) (bF fd 1) lt ct), (21, .inr (.inl (1, ty)))])) (ob := []) rfl (ob_n) ?_
      exact J.iret F hR (Nat.le_refl _) (Nat.le_refl _) rfl rfl (by decide +kernel) ⟨rfl, keq [20, 21] rfl rfl, by rw [rv], by rw [rS, show rnC (nmV ty s (m3 (e - s))) lo hi s e = 1 from by simp only [rnC, he, ↓reduceIte, ite_self, Bool.false_eq_true, cond_true, cond_false, Bool.true_and, Bool.false_and, Bool.and_true, Bool.and_false, Bool.true_or, Bool.false_or, Bool.or_true, Bool.or_false, Bool.not_true, Bool.not_false, decide_true, decide_false, b2i_t, b2i_f]]; simp only [blS, bF_0, bP_0]⟩
    · by_cases h3 : 3 < e - s
      · skip
        refine J.run (sn_X4_readNumber F) 10 [1, 1] (S' := (116, [(0, .ref 20), (1, .int lo), (2, .int hi), (3, .int (nI s)), (4, .int (nmV ty s (m3 (e - s))))], [], [(20, rO t e pl fd lt ct), (21, .inr (.inl (1, ty)))])) (ob := [¬ (nI e) = (nI s), 3 < ((nI e) - (nI s))]) rfl (ob_c (n_ne (by omega) (by omega) he) (ob_c (by rw [nI_sub hse]; exact n_lt (a := 3) (by omega) (by omega) h3) ob_n)) ?_
        refine J.run (sn_X4_readNumber F) 3 [] (S' := (119, [(0, .ref 20), (1, .int lo), (2, .int hi), (3, .int (nI s)), (4, .int (nmV ty s (m3 (e - s))))], [.int (nI s), .int 2, .ref 20], [(20, rO t e pl fd lt ct), (21, .inr (.inl (1, ty)))])) (ob := []) rfl (ob_n) ?_
        refine J.callV F hJ lk_X4_74 im_X4_blame se_X4_blame (by decide +kernel) (c_blame t e pl fd lt ct 2 (nI s) (by decide)) (fun k => k) (by omega) [] rfl rfl rfl rfl rfl (by decide) rfl (show List.Nodup [20] by decide) (fun r ws' hk hp => ?_)
        obtain ⟨rfl, rfl⟩ := hp
        show J x 5 (ad, 0, 0) (122, [(0, .ref 20), (1, .int lo), (2, .int hi), (3, .int (nI s)), (4, .int (nmV ty s (m3 (e - s))))], [], [(20, rO t e (bP fd 2 pl (nI s)) (bF fd 2) lt ct), (21, .inr (.inl (1, ty)))])
        refine J.run (sn_X4_readNumber F) 1 [] (S' := (124, [(0, .ref 20), (1, .int lo), (2, .int hi), (3, .int (nI s)), (4, .int (nmV ty s (m3 (e - s))))], [.int (nmV ty s (m3 (e - s)))], [(20, rO t e (bP fd 2 pl (nI s)) (bF fd 2) lt ct), (21, .inr (.inl (1, ty)))])) (ob := []) rfl (ob_n) ?_
        exact J.iret F hR (Nat.le_refl _) (Nat.le_refl _) rfl rfl (by decide +kernel) ⟨rfl, keq [20, 21] rfl rfl, by rw [rv], by rw [rS, show rnC (nmV ty s (m3 (e - s))) lo hi s e = 2 from by simp only [rnC, he, h3, ↓reduceIte, ite_self, Bool.false_eq_true, cond_true, cond_false, Bool.true_and, Bool.false_and, Bool.and_true, Bool.and_false, Bool.true_or, Bool.false_or, Bool.or_true, Bool.or_false, Bool.not_true, Bool.not_false, decide_true, decide_false, b2i_t, b2i_f]]; simp only [blS, bF_0, bP_0]⟩
      · skip
        refine J.run (sn_X4_readNumber F) 10 [1, 0] (S' := (104, [(0, .ref 20), (1, .int lo), (2, .int hi), (3, .int (nI s)), (4, .int (nmV ty s (m3 (e - s))))], [], [(20, rO t e pl fd lt ct), (21, .inr (.inl (1, ty)))])) (ob := [¬ (nI e) = (nI s), ¬ 3 < ((nI e) - (nI s))]) rfl (ob_c (n_ne (by omega) (by omega) he) (ob_c (by rw [nI_sub hse]; exact n_nlt (a := 3) (by omega) (by omega) (by omega)) ob_n)) ?_
        by_cases h1 : (nmV ty s (m3 (e - s))) < lo
        · skip
          refine J.run (sn_X4_readNumber F) 6 [1] (S' := (119, [(0, .ref 20), (1, .int lo), (2, .int hi), (3, .int (nI s)), (4, .int (nmV ty s (m3 (e - s))))], [.int (nI s), .int 2, .ref 20], [(20, rO t e pl fd lt ct), (21, .inr (.inl (1, ty)))])) (ob := [(nmV ty s (m3 (e - s))) < lo]) rfl (ob_c h1 ob_n) ?_
          refine J.callV F hJ lk_X4_74 im_X4_blame se_X4_blame (by decide +kernel) (c_blame t e pl fd lt ct 2 (nI s) (by decide)) (fun k => k) (by omega) [] rfl rfl rfl rfl rfl (by decide) rfl (show List.Nodup [20] by decide) (fun r ws' hk hp => ?_)
          obtain ⟨rfl, rfl⟩ := hp
          show J x 5 (ad, 0, 0) (122, [(0, .ref 20), (1, .int lo), (2, .int hi), (3, .int (nI s)), (4, .int (nmV ty s (m3 (e - s))))], [], [(20, rO t e (bP fd 2 pl (nI s)) (bF fd 2) lt ct), (21, .inr (.inl (1, ty)))])
          refine J.run (sn_X4_readNumber F) 1 [] (S' := (124, [(0, .ref 20), (1, .int lo), (2, .int hi), (3, .int (nI s)), (4, .int (nmV ty s (m3 (e - s))))], [.int (nmV ty s (m3 (e - s)))], [(20, rO t e (bP fd 2 pl (nI s)) (bF fd 2) lt ct), (21, .inr (.inl (1, ty)))])) (ob := []) rfl (ob_n) ?_
          exact J.iret F hR (Nat.le_refl _) (Nat.le_refl _) rfl rfl (by decide +kernel) ⟨rfl, keq [20, 21] rfl rfl, by rw [rv], by rw [rS, show rnC (nmV ty s (m3 (e - s))) lo hi s e = 2 from by simp only [rnC, h1, f_lt h1, he, h3, ↓reduceIte, ite_self, Bool.false_eq_true, cond_true, cond_false, Bool.true_and, Bool.false_and, Bool.and_true, Bool.and_false, Bool.true_or, Bool.false_or, Bool.or_true, Bool.or_false, Bool.not_true, Bool.not_false, decide_true, decide_false, b2i_t, b2i_f]]; simp only [blS, bF_0, bP_0]⟩
        · skip
          by_cases h2 : (nmV ty s (m3 (e - s))) ≤ hi
          · skip
            refine J.run (sn_X4_readNumber F) 7 [0, 1] (S' := (124, [(0, .ref 20), (1, .int lo), (2, .int hi), (3, .int (nI s)), (4, .int (nmV ty s (m3 (e - s))))], [.int (nmV ty s (m3 (e - s)))], [(20, rO t e pl fd lt ct), (21, .inr (.inl (1, ty)))])) (ob := [¬ (nmV ty s (m3 (e - s))) < lo, (nmV ty s (m3 (e - s))) ≤ hi]) rfl (ob_c h1 (ob_c h2 ob_n)) ?_
            exact J.iret F hR (Nat.le_refl _) (Nat.le_refl _) rfl rfl (by decide +kernel) ⟨rfl, keq [20, 21] rfl rfl, by rw [rv], by rw [rS, show rnC (nmV ty s (m3 (e - s))) lo hi s e = 0 from by simp only [rnC, h1, f_nlt h1, h2, f_le h2, he, h3, ↓reduceIte, ite_self, Bool.false_eq_true, cond_true, cond_false, Bool.true_and, Bool.false_and, Bool.and_true, Bool.and_false, Bool.true_or, Bool.false_or, Bool.or_true, Bool.or_false, Bool.not_true, Bool.not_false, decide_true, decide_false, b2i_t, b2i_f]]; simp only [blS, bF_0, bP_0]⟩
          · skip
            refine J.run (sn_X4_readNumber F) 9 [0, 0] (S' := (119, [(0, .ref 20), (1, .int lo), (2, .int hi), (3, .int (nI s)), (4, .int (nmV ty s (m3 (e - s))))], [.int (nI s), .int 2, .ref 20], [(20, rO t e pl fd lt ct), (21, .inr (.inl (1, ty)))])) (ob := [¬ (nmV ty s (m3 (e - s))) < lo, ¬ (nmV ty s (m3 (e - s))) ≤ hi]) rfl (ob_c h1 (ob_c h2 ob_n)) ?_
            refine J.callV F hJ lk_X4_74 im_X4_blame se_X4_blame (by decide +kernel) (c_blame t e pl fd lt ct 2 (nI s) (by decide)) (fun k => k) (by omega) [] rfl rfl rfl rfl rfl (by decide) rfl (show List.Nodup [20] by decide) (fun r ws' hk hp => ?_)
            obtain ⟨rfl, rfl⟩ := hp
            show J x 5 (ad, 0, 0) (122, [(0, .ref 20), (1, .int lo), (2, .int hi), (3, .int (nI s)), (4, .int (nmV ty s (m3 (e - s))))], [], [(20, rO t e (bP fd 2 pl (nI s)) (bF fd 2) lt ct), (21, .inr (.inl (1, ty)))])
            refine J.run (sn_X4_readNumber F) 1 [] (S' := (124, [(0, .ref 20), (1, .int lo), (2, .int hi), (3, .int (nI s)), (4, .int (nmV ty s (m3 (e - s))))], [.int (nmV ty s (m3 (e - s)))], [(20, rO t e (bP fd 2 pl (nI s)) (bF fd 2) lt ct), (21, .inr (.inl (1, ty)))])) (ob := []) rfl (ob_n) ?_
            exact J.iret F hR (Nat.le_refl _) (Nat.le_refl _) rfl rfl (by decide +kernel) ⟨rfl, keq [20, 21] rfl rfl, by rw [rv], by rw [rS, show rnC (nmV ty s (m3 (e - s))) lo hi s e = 2 from by simp only [rnC, h1, f_nlt h1, h2, f_nle h2, he, h3, ↓reduceIte, ite_self, Bool.false_eq_true, cond_true, cond_false, Bool.true_and, Bool.false_and, Bool.and_true, Bool.and_false, Bool.true_or, Bool.false_or, Bool.or_true, Bool.or_false, Bool.not_true, Bool.not_false, decide_true, decide_false, b2i_t, b2i_f]]; simp only [blS, bF_0, bP_0]⟩
  have H : ∀ n k : Nat, k + n = t → s ≤ k → skp (fun k => btw ty t k 48 57) n k = e → J x 5 (ad, 0, 0) (12, [(0, .ref 20), (1, .int lo), (2, .int hi), (3, .int (nI s)), (4, .int (nmV ty s (m3 (k - s))))], [], [(20, rO t k pl fd lt ct), (21, .inr (.inl (1, ty)))]) := by
    intro n
    induction n with
    | zero =>
      intro k hk hsk hQ
      have e9 : k = e := hQ
      subst e9
      refine J.run (sn_X4_readNumber F) 5 [1] (S' := (77, [(0, .ref 20), (1, .int lo), (2, .int hi), (3, .int (nI s)), (4, .int (nmV ty s (m3 (k - s))))], [], [(20, rO t k pl fd lt ct), (21, .inr (.inl (1, ty)))])) (ob := [(nI t) ≤ (nI k)]) rfl (ob_c (n_le (by omega) (by omega) (by omega)) ob_n) ?_
      exact H77
    | succ n ih =>
      intro k hk hsk hQ
      by_cases hk3 : k - s < 3
      · skip
        refine J.run (sn_X4_readNumber F) 8 [0] (S' := (28, [(0, .ref 20), (1, .int lo), (2, .int hi), (3, .int (nI s)), (4, .int (nmV ty s (m3 (k - s))))], [.int 57, .int 48, .ref 20], [(20, rO t k pl fd lt ct), (21, .inr (.inl (1, ty)))])) (ob := [¬ (nI t) ≤ (nI k)]) rfl (ob_c (n_nle (by omega) (by omega) (by omega)) ob_n) ?_
        refine J.callV F hJ lk_X4_113 im_X4_isBetween se_X4_isBetween (by decide +kernel) (c_isB ty hty t ht k (by omega) pl fd lt ct 48 57) (fun k => k) (by omega) [] rfl rfl rfl rfl rfl (by decide) rfl (show List.Nodup [20, 21] by decide) (fun r ws' hk hp => ?_)
        obtain ⟨rfl, rfl⟩ := hp
        show J x 5 (ad, 0, 0) (31, [(0, .ref 20), (1, .int lo), (2, .int hi), (3, .int (nI s)), (4, .int (nmV ty s (m3 (k - s))))], [.int (b2i (btw ty t k 48 57))], [(20, rO t k pl fd lt ct), (21, .inr (.inl (1, ty)))])
        cases hb1 : btw ty t k 48 57
        · skip
          refine J.run (sn_X4_readNumber F) 1 [1] (S' := (77, [(0, .ref 20), (1, .int lo), (2, .int hi), (3, .int (nI s)), (4, .int (nmV ty s (m3 (k - s))))], [], [(20, rO t k pl fd lt ct), (21, .inr (.inl (1, ty)))])) (ob := [(0 : Int32) = 0]) rfl (ob_c (by decide) ob_n) ?_
          have e9 : k = e := (skp_f (p := fun k => btw ty t k 48 57) hb1).symm.trans hQ
          subst e9
          exact H77
        · skip
          refine J.run (sn_X4_readNumber F) 10 [0, 0] (S' := (49, [(0, .ref 20), (1, .int lo), (2, .int hi), (3, .int (nI s)), (4, .int (nmV ty s (m3 (k - s))))], [.int (10 * (nmV ty s (m3 (k - s))))], [(20, rO t k pl fd lt ct), (21, .inr (.inl (1, ty)))])) (ob := [¬ (1 : Int32) = 0, ¬ 3 ≤ ((nI k) - (nI s))]) rfl (ob_c (by decide) (ob_c (by rw [nI_sub hsk]; exact n_nle (a := 3) (by omega) (by omega) hk3) ob_n)) ?_
          refine J.run (sn_X4_readNumber F) 10 [k] (S' := (65, [(0, .ref 20), (1, .int lo), (2, .int hi), (3, .int (nI s)), (4, .int (((10 * (nmV ty s (m3 (k - s)))) + (gi ty k)) - 48))], [.ref 20], [(20, rO t k pl fd lt ct), (21, .inr (.inl (1, ty)))])) (ob := [ix (nI k) k ty.length]) rfl (ob_c (ix_len hty (ix_nI (by omega) (by decide))) ob_n) ?_
          refine J.run (sn_X4_readNumber F) 6 [] (S' := (12, [(0, .ref 20), (1, .int lo), (2, .int hi), (3, .int (nI s)), (4, .int (((10 * (nmV ty s (m3 (k - s)))) + (gi ty k)) - 48))], [], [(20, .inl (4, [.ref 25, .int (nI t), .int pl, .ref 21, .int ((nI k) + 1), .int fd, .int lt, .int ct])), (21, .inr (.inl (1, ty)))])) (ob := []) rfl (ob_n) ?_
          have ev : nmV ty s (m3 (k + 1 - s)) = 10 * nmV ty s (m3 (k - s)) + gi ty k - 48 := by rw [show m3 (k + 1 - s) = (k - s) + 1 by unfold m3; split <;> omega, nmV_s, show m3 (k - s) = k - s by unfold m3; rw [if_pos hk3], show s + (k - s) = k by omega]
          exact J.cast (ih (k + 1) (by omega) (by omega) ((skp_t (p := fun k => btw ty t k 48 57) hb1).symm.trans hQ)) (by rw [ev]; simp only [nI_1, rO])
      · skip
        refine J.run (sn_X4_readNumber F) 8 [0] (S' := (28, [(0, .ref 20), (1, .int lo), (2, .int hi), (3, .int (nI s)), (4, .int (nmV ty s (m3 (k - s))))], [.int 57, .int 48, .ref 20], [(20, rO t k pl fd lt ct), (21, .inr (.inl (1, ty)))])) (ob := [¬ (nI t) ≤ (nI k)]) rfl (ob_c (n_nle (by omega) (by omega) (by omega)) ob_n) ?_
        refine J.callV F hJ lk_X4_113 im_X4_isBetween se_X4_isBetween (by decide +kernel) (c_isB ty hty t ht k (by omega) pl fd lt ct 48 57) (fun k => k) (by omega) [] rfl rfl rfl rfl rfl (by decide) rfl (show List.Nodup [20, 21] by decide) (fun r ws' hk hp => ?_)
        obtain ⟨rfl, rfl⟩ := hp
        show J x 5 (ad, 0, 0) (31, [(0, .ref 20), (1, .int lo), (2, .int hi), (3, .int (nI s)), (4, .int (nmV ty s (m3 (k - s))))], [.int (b2i (btw ty t k 48 57))], [(20, rO t k pl fd lt ct), (21, .inr (.inl (1, ty)))])
        cases hb1 : btw ty t k 48 57
        · skip
          refine J.run (sn_X4_readNumber F) 1 [1] (S' := (77, [(0, .ref 20), (1, .int lo), (2, .int hi), (3, .int (nI s)), (4, .int (nmV ty s (m3 (k - s))))], [], [(20, rO t k pl fd lt ct), (21, .inr (.inl (1, ty)))])) (ob := [(0 : Int32) = 0]) rfl (ob_c (by decide) ob_n) ?_
          have e9 : k = e := (skp_f (p := fun k => btw ty t k 48 57) hb1).symm.trans hQ
          subst e9
          exact H77
        · skip
          refine J.run (sn_X4_readNumber F) 10 [0, 1] (S' := (69, [(0, .ref 20), (1, .int lo), (2, .int hi), (3, .int (nI s)), (4, .int (nmV ty s (m3 (k - s))))], [.int (nI k), .ref 20], [(20, rO t k pl fd lt ct), (21, .inr (.inl (1, ty)))])) (ob := [¬ (1 : Int32) = 0, 3 ≤ ((nI k) - (nI s))]) rfl (ob_c (by decide) (ob_c (by rw [nI_sub hsk]; exact n_le (a := 3) (by omega) (by omega) (by omega)) ob_n)) ?_
          refine J.run (sn_X4_readNumber F) 4 [] (S' := (12, [(0, .ref 20), (1, .int lo), (2, .int hi), (3, .int (nI s)), (4, .int (nmV ty s (m3 (k - s))))], [], [(20, .inl (4, [.ref 25, .int (nI t), .int pl, .ref 21, .int ((nI k) + 1), .int fd, .int lt, .int ct])), (21, .inr (.inl (1, ty)))])) (ob := []) rfl (ob_n) ?_
          have ev : nmV ty s (m3 (k + 1 - s)) = nmV ty s (m3 (k - s)) := by rw [show m3 (k + 1 - s) = m3 (k - s) by unfold m3; rw [if_neg hk3, if_neg (by omega)]]
          exact J.cast (ih (k + 1) (by omega) (by omega) ((skp_t (p := fun k => btw ty t k 48 57) hb1).symm.trans hQ)) (by rw [ev]; simp only [nI_1, rO])
  refine J.run (sn_X4_readNumber F) 1 [] (S' := (1, [(0, .ref 20), (1, .int lo), (2, .int hi)], [.ref 20], [(20, rO t a pl fd lt ct), (21, .inr (.inl (1, ty)))])) (ob := []) rfl (ob_n) ?_
  refine J.callV F hJ lk_X4_45 im_X4_skipBlanks se_X4_skipBlanks (by decide +kernel) (c_skipBlanks ty hty t ht a (by omega) pl fd lt ct) (fun k => k) (by omega) [] rfl rfl rfl rfl rfl (by decide) rfl (show List.Nodup [20, 21] by decide) (fun r ws' hk hp => ?_)
  obtain ⟨rfl, rfl⟩ := hp
  rw [hS]
  show J x 5 (ad, 0, 0) (4, [(0, .ref 20), (1, .int lo), (2, .int hi)], [], [(20, rO t s pl fd lt ct), (21, .inr (.inl (1, ty)))])
  refine J.run (sn_X4_readNumber F) 5 [] (S' := (12, [(0, .ref 20), (1, .int lo), (2, .int hi), (3, .int (nI s)), (4, .int 0)], [], [(20, rO t s pl fd lt ct), (21, .inr (.inl (1, ty)))])) (ob := []) rfl (ob_n) ?_
  exact J.cast (H (t - s) s (by omega) (Nat.le_refl _) hE) (by rw [Nat.sub_self]; rfl)
