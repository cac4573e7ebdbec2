def mP (z : Nat → Int32) (t a : Nat) (so : Int32) (s sz : Nat) (fa ru co : Int32) : Pe := .inl (7, [.ref 501, .int (nI t), .ref 502, .ref 503, .ref 504, .ref 505, .ref 506, .ref 507, .ref 508, .ref 509, .ref 510, .int (z 11), .ref 511, .ref 512, .int (z 14), .int (z 15), .int (z 16), .int (nI a), .int so, .int (nI s), .int (nI sz), .int fa, .int ru, .int co, .ref 513, .ref 514, .int (z 26)])
def bat (tx : List Int32) (t k : Nat) : Int32 := if k < t then gi tx k else -1
def srt (v : Int32) : Int32 := if v < 0 then 0 else if inB v 97 122 = true then 1 else if inB v 48 57 = true then 2 else if v = 59 then 3 else 4
def sx8 (x : Int32) : Int32 := (Int32.toInt8 x).toInt32
def tyR (tx ty : List Int32) (t : Nat) : Prop := ∀ k, k < t → ∃ n, n < 256 ∧ gi tx k = nI n ∧ gi ty k = sx8 (nI n)
def tso (ty : List Int32) (t s : Nat) : Int32 := bif btw ty t s 97 122 then 1 else bif btw ty t s 48 57 then 2 else bif btw ty t s 59 59 then 3 else bif decide (s < t) then 4 else 0
def tke (ty : List Int32) (t s : Nat) : Nat := bif btw ty t s 97 122 then skq ty t 97 122 s else bif btw ty t s 48 57 then skq ty t 48 57 s else bif decide (s < t) then s + 1 else s
def by1 (x y : Int32) : Bool := !decide (x < 0)
theorem by_all : ∀ n, n < 256 → decide (nI n = 32) = (!decide (sx8 (nI n) < 32) && !decide (32 < sx8 (nI n))) ∧ srt (nI n) = (bif !decide (sx8 (nI n) < 97) && !decide (122 < sx8 (nI n)) then 1 else bif !decide (sx8 (nI n) < 48) && !decide (57 < sx8 (nI n)) then 2 else bif !decide (sx8 (nI n) < 59) && !decide (59 < sx8 (nI n)) then 3 else 4) ∧ ((!decide (sx8 (nI n) < 48) && !decide (122 < sx8 (nI n))) = true → sx8 (nI n) = nI n) := by decide +kernel
theorem b32 {tx ty : List Int32} {t k : Nat} (hT : tyR tx ty t) : decide (bat tx t k = 32) = btw ty t k 32 32 := by
  unfold bat btw
  by_cases h : k < t
  · obtain ⟨n, hn, e1, e2⟩ := hT k h
    rw [if_pos h, e1, e2, (by_all n hn).1, decide_eq_true h]
    rfl
  · rw [if_neg h, decide_eq_false h]
    rfl
theorem bso {tx ty : List Int32} {t k : Nat} (hT : tyR tx ty t) : srt (bat tx t k) = tso ty t k := by
  unfold bat tso btw
  by_cases h : k < t
  · obtain ⟨n, hn, e1, e2⟩ := hT k h
    rw [if_pos h, e1, e2, (by_all n hn).2.1, decide_eq_true h]
    rfl
  · rw [if_neg h, decide_eq_false h]
    rfl
theorem bgi {tx ty : List Int32} {t k : Nat} (hT : tyR tx ty t) {lo hi : Int32} (h : btw ty t k lo hi = true) (hlo : 48 ≤ lo) (hhi : hi ≤ 122) : bat tx t k = gi ty k := by
  obtain ⟨h1, h2⟩ := Bool.and_eq_true_iff.mp h
  have hk : k < t := of_decide_eq_true h1
  obtain ⟨h3, h4⟩ := Bool.and_eq_true_iff.mp h2
  obtain ⟨n, hn, e1, e2⟩ := hT k hk
  unfold bat
  rw [if_pos hk, e1, e2]
  rw [e2] at h3 h4
  have g3 : ¬ sx8 (nI n) < lo := by simpa using h3
  have g4 : ¬ hi < sx8 (nI n) := by simpa using h4
  refine ((by_all n hn).2.2 ?_).symm
  rw [Bool.and_eq_true_iff]
  exact ⟨by simpa using Int32.le_trans hlo (f_nlt g3), by simpa using Int32.le_trans (f_nlt g4) hhi⟩
theorem tso_w {ty : List Int32} {t s : Nat} (h : btw ty t s 97 122 = true) : tso ty t s = 1 := by unfold tso; rw [h]; rfl
theorem btw_dis {ty : List Int32} {t k : Nat} {lo hi lo' hi' : Int32} (h : btw ty t k lo hi = true) (hd : hi < lo') : btw ty t k lo' hi' = false := by
  obtain ⟨h1, h2⟩ := Bool.and_eq_true_iff.mp h
  obtain ⟨h3, h4⟩ := Bool.and_eq_true_iff.mp h2
  have g4 : ¬ hi < gi ty k := by simpa using h4
  unfold btw
  rw [show decide (gi ty k < lo') = true from decide_eq_true (Int32.lt_of_le_of_lt (f_nlt g4) hd)]
  cases decide (k < t) <;> rfl
theorem btw_dis2 {ty : List Int32} {t k : Nat} {lo hi lo' hi' : Int32} (h : btw ty t k lo hi = true) (hd : hi' < lo) : btw ty t k lo' hi' = false := by
  cases h9 : btw ty t k lo' hi' with
  | false => rfl
  | true =>
    have := btw_dis (lo' := lo) (hi' := hi) h9 hd
    rw [h] at this
    cases this
theorem tso_d {ty : List Int32} {t s : Nat} (h : btw ty t s 48 57 = true) : tso ty t s = 2 := by unfold tso; rw [btw_dis (lo' := 97) (hi' := 122) h (by decide), h]; rfl
theorem tso_nw {ty : List Int32} {t s : Nat} (h : btw ty t s 97 122 = false) : ¬ tso ty t s = 1 := by
  unfold tso; rw [h]
  cases btw ty t s 48 57 <;> cases btw ty t s 59 59 <;> cases decide (s < t) <;> decide
theorem tso_nd {ty : List Int32} {t s : Nat} (h : btw ty t s 48 57 = false) : ¬ tso ty t s = 2 := by
  unfold tso; rw [h]
  cases btw ty t s 97 122 <;> cases btw ty t s 59 59 <;> cases decide (s < t) <;> decide
theorem skq_in {ty : List Int32} {t : Nat} {lo hi : Int32} {s k : Nat} (h1 : s ≤ k) (h2 : k < skq ty t lo hi s) : btw ty t k lo hi = true := by
  have H : ∀ n s, s ≤ k → k < skp (fun k => btw ty t k lo hi) n s → btw ty t k lo hi = true := by
    intro n
    induction n with
    | zero => intro s h1 h2; exact absurd h2 (Nat.not_lt.mpr h1)
    | succ n ih =>
      intro s h1 h2
      cases hb : btw ty t s lo hi with
      | false => rw [skp_f (p := fun k => btw ty t k lo hi) hb] at h2; exact absurd h2 (Nat.not_lt.mpr h1)
      | true =>
        rw [skp_t (p := fun k => btw ty t k lo hi) hb] at h2
        by_cases e : s = k
        · rw [← e]; exact hb
        · exact ih (s + 1) (by omega) h2
  exact H _ s h1 h2
theorem skq_gt {ty : List Int32} {t : Nat} {lo hi : Int32} {s : Nat} (h : btw ty t s lo hi = true) : s < skq ty t lo hi s := by
  unfold skq
  have := btw_lt h
  rw [show t - s = (t - s - 1) + 1 by omega, skp_t (p := fun k => btw ty t k lo hi) h]
  exact skp_ge _ _ _
theorem skq_eq {ty : List Int32} {t : Nat} {lo hi : Int32} {s : Nat} (hs : s ≤ t) (h : btw ty t s lo hi = false) : skq ty t lo hi s = s := by
  unfold skq
  by_cases e : s = t
  · rw [e, Nat.sub_self]; rfl
  · rw [show t - s = (t - s - 1) + 1 by omega, skp_f (p := fun k => btw ty t k lo hi) h]
theorem tke_le {ty : List Int32} {t s : Nat} (hs : s ≤ t) : tke ty t s ≤ t := by
  unfold tke
  cases btw ty t s 97 122
  · cases btw ty t s 48 57
    · by_cases h : s < t
      · rw [decide_eq_true h]; exact h
      · rw [decide_eq_false h]; exact hs
    · exact skq_le hs
  · exact skq_le hs
theorem tke_ge {ty : List Int32} {t s : Nat} : s ≤ tke ty t s := by
  unfold tke
  cases btw ty t s 97 122
  · cases btw ty t s 48 57
    · by_cases h : s < t
      · rw [decide_eq_true h]; exact Nat.le_succ s
      · rw [decide_eq_false h]; exact Nat.le_refl s
    · exact skq_ge _ _ _ _ _
  · exact skq_ge _ _ _ _ _
theorem n_eq0 {n : Nat} (h : n < 2 ^ 31) (h0 : 0 < n) : ¬ nI n = 0 := n_ne (b := 0) h (by omega) (by omega)
theorem btw_out {ty : List Int32} {t k : Nat} {lo hi : Int32} (h : t ≤ k) : btw ty t k lo hi = false := by
  unfold btw
  rw [decide_eq_false (Nat.not_lt.mpr h)]
  rfl
set_option maxHeartbeats 4000000 in
set_option maxRecDepth 100000 in
theorem c_byte (z : Nat → Int32) (tx ty : List Int32) (htx : tx.length = 400) (t : Nat) (ht : t ≤ 400) (hT : tyR tx ty t) (a : Nat) (so : Int32) (s sz : Nat) (fa ru co : Int32) (k : Nat) (hk : k ≤ 400) : Ctr mk_X7_byteAt 1 [.ref 500, .int (nI k)] [(500, mP z t a so s sz fa ru co), (501, .inr (.inl (0, tx)))] (fun r u => r = some (.int (bat tx t k)) ∧ u = [(500, mP z t a so s sz fa ru co), (501, .inr (.inl (0, tx)))]) := by
  refine Ctr.of rfl (Nat.le_of_ble_eq_true rfl) ?_
  intro x ad F hJ hR
  by_cases hkt : k < t
  · skip
    refine J.run (sn_X7_byteAt F) 9 [0, k] (S' := (18, [(0, .ref 500), (1, .int (nI k))], [.int (gi tx k)], [(500, mP z t a so s sz fa ru co), (501, .inr (.inl (0, tx)))])) (ob := [¬ (nI t) ≤ (nI k), ix (nI k) k tx.length]) rfl (ob_c (n_nle (by omega) (by omega) hkt) (ob_c (ix_len htx (ix_nI (by omega) (by decide))) ob_n)) ?_
    exact J.iret F hR (Nat.le_refl _) (Nat.le_refl _) rfl rfl (by decide +kernel) ⟨rfl, keq [500, 501] rfl rfl, by unfold bat; rw [if_pos hkt], rfl⟩
  · skip
    refine J.run (sn_X7_byteAt F) 5 [1] (S' := (18, [(0, .ref 500), (1, .int (nI k))], [.int (-1)], [(500, mP z t a so s sz fa ru co), (501, .inr (.inl (0, tx)))])) (ob := [(nI t) ≤ (nI k)]) rfl (ob_c (n_le (by omega) (by omega) (by omega)) ob_n) ?_
    exact J.iret F hR (Nat.le_refl _) (Nat.le_refl _) rfl rfl (by decide +kernel) ⟨rfl, keq [500, 501] rfl rfl, by unfold bat; rw [if_neg hkt], rfl⟩
set_option maxHeartbeats 4000000 in
set_option maxRecDepth 100000 in
theorem c_sort (v : Int32) : Ctr mk_X7_sortOf 2 [.int v] [] (fun r u => r = some (.int (srt v)) ∧ u = []) := by
  refine Ctr.of rfl (Nat.le_of_ble_eq_true rfl) ?_
  intro x ad F hJ hR
  by_cases h1 : 0 ≤ v
  · skip
    refine J.run (sn_X7_sortOf F) 5 [1] (S' := (13, [(0, .int v)], [.int 122, .int 97, .int v], [])) (ob := [0 ≤ v]) rfl (ob_c h1 ob_n) ?_
    refine J.callS F hJ lk_X7_66 st_X7_in (by decide +kernel) (c_in v 97 122) (fun k => k) (by decide) [] rfl rfl rfl (by decide) rfl (show List.Nodup [] by decide) (fun r ws' hk hp => ?_)
    obtain ⟨rfl, rfl⟩ := hp
    show J x 1 (ad, 0, 0) (16, [(0, .int v)], [.int (b2i (inB v 97 122))], [])
    cases hb2 : inB v 97 122
    · skip
      refine J.run (sn_X7_sortOf F) 4 [1] (S' := (28, [(0, .int v)], [.int 57, .int 48, .int v], [])) (ob := [(0 : Int32) = 0]) rfl (ob_c (by decide) ob_n) ?_
      refine J.callS F hJ lk_X7_66 st_X7_in (by decide +kernel) (c_in v 48 57) (fun k => k) (by decide) [] rfl rfl rfl (by decide) rfl (show List.Nodup [] by decide) (fun r ws' hk hp => ?_)
      obtain ⟨rfl, rfl⟩ := hp
      show J x 1 (ad, 0, 0) (31, [(0, .int v)], [.int (b2i (inB v 48 57))], [])
      cases hb3 : inB v 48 57
      · skip
        by_cases h4 : v = 59
        · skip
          refine J.run (sn_X7_sortOf F) 6 [1, 0] (S' := (49, [(0, .int v)], [.int 3], [])) (ob := [(0 : Int32) = 0, v = 59]) rfl (ob_c (by decide) (ob_c h4 ob_n)) ?_
          exact J.iret F hR (Nat.le_refl _) (Nat.le_refl _) rfl rfl (by decide +kernel) ⟨rfl, keq [] rfl rfl, by simp only [srt, h1, f_le h1, hb2, hb3, eq_true h4, ↓reduceIte, ite_self, Bool.false_eq_true, cond_true, cond_false, Bool.true_and, Bool.false_and, Bool.and_true, Bool.and_false, Bool.true_or, Bool.false_or, Bool.or_true, Bool.or_false, Bool.not_true, Bool.not_false, decide_true, decide_false, b2i_t, b2i_f], rfl⟩
        · skip
          refine J.run (sn_X7_sortOf F) 5 [1, 1] (S' := (49, [(0, .int v)], [.int 4], [])) (ob := [(0 : Int32) = 0, ¬ v = 59]) rfl (ob_c (by decide) (ob_c h4 ob_n)) ?_
          exact J.iret F hR (Nat.le_refl _) (Nat.le_refl _) rfl rfl (by decide +kernel) ⟨rfl, keq [] rfl rfl, by simp only [srt, h1, f_le h1, hb2, hb3, h4, ↓reduceIte, ite_self, Bool.false_eq_true, cond_true, cond_false, Bool.true_and, Bool.false_and, Bool.and_true, Bool.and_false, Bool.true_or, Bool.false_or, Bool.or_true, Bool.or_false, Bool.not_true, Bool.not_false, decide_true, decide_false, b2i_t, b2i_f], rfl⟩
      · skip
        refine J.run (sn_X7_sortOf F) 3 [0] (S' := (49, [(0, .int v)], [.int 2], [])) (ob := [¬ (1 : Int32) = 0]) rfl (ob_c (by decide) ob_n) ?_
        exact J.iret F hR (Nat.le_refl _) (Nat.le_refl _) rfl rfl (by decide +kernel) ⟨rfl, keq [] rfl rfl, by simp only [srt, h1, f_le h1, hb2, hb3, ↓reduceIte, ite_self, Bool.false_eq_true, cond_true, cond_false, Bool.true_and, Bool.false_and, Bool.and_true, Bool.and_false, Bool.true_or, Bool.false_or, Bool.or_true, Bool.or_false, Bool.not_true, Bool.not_false, decide_true, decide_false, b2i_t, b2i_f], rfl⟩
    · skip
      refine J.run (sn_X7_sortOf F) 3 [0] (S' := (49, [(0, .int v)], [.int 1], [])) (ob := [¬ (1 : Int32) = 0]) rfl (ob_c (by decide) ob_n) ?_
      exact J.iret F hR (Nat.le_refl _) (Nat.le_refl _) rfl rfl (by decide +kernel) ⟨rfl, keq [] rfl rfl, by simp only [srt, h1, f_le h1, hb2, ↓reduceIte, ite_self, Bool.false_eq_true, cond_true, cond_false, Bool.true_and, Bool.false_and, Bool.and_true, Bool.and_false, Bool.true_or, Bool.false_or, Bool.or_true, Bool.or_false, Bool.not_true, Bool.not_false, decide_true, decide_false, b2i_t, b2i_f], rfl⟩
  · skip
    refine J.run (sn_X7_sortOf F) 4 [0] (S' := (49, [(0, .int v)], [.int 0], [])) (ob := [¬ 0 ≤ v]) rfl (ob_c h1 ob_n) ?_
    exact J.iret F hR (Nat.le_refl _) (Nat.le_refl _) rfl rfl (by decide +kernel) ⟨rfl, keq [] rfl rfl, by simp only [srt, h1, f_nle h1, ↓reduceIte, ite_self, Bool.false_eq_true, cond_true, cond_false, Bool.true_and, Bool.false_and, Bool.and_true, Bool.and_false, Bool.true_or, Bool.false_or, Bool.or_true, Bool.or_false, Bool.not_true, Bool.not_false, decide_true, decide_false, b2i_t, b2i_f], rfl⟩
set_option maxHeartbeats 4000000 in
set_option maxRecDepth 100000 in
theorem c_token (z : Nat → Int32) (tx ty : List Int32) (htx : tx.length = 400) (t : Nat) (ht : t ≤ 400) (hT : tyR tx ty t) (a : Nat) (so : Int32) (s sz : Nat) (fa ru co : Int32) (ha : a ≤ t) : Ctr mk_X7_token 3 [.ref 500] [(500, mP z t a so s sz fa ru co), (501, .inr (.inl (0, tx)))] (fun r u => r = none ∧ u = [(500, mP z t (tke ty t (skq ty t 32 32 a)) (tso ty t (skq ty t 32 32 a)) (skq ty t 32 32 a) (tke ty t (skq ty t 32 32 a) - (skq ty t 32 32 a)) fa ru co), (501, .inr (.inl (0, tx)))]) := by
  refine Ctr.of rfl (Nat.le_of_ble_eq_true rfl) ?_
  intro x ad F hJ hR
  have hs9 : (skq ty t 32 32 a) ≤ t := skq_le ha
  have hte : tke ty t (skq ty t 32 32 a) ≤ t := tke_le hs9
  generalize hS : (skq ty t 32 32 a) = q at *
  have HW : ∀ (e : Nat), tke ty t q = e → tso ty t q = 1 → e ≤ t → ∀ n k : Nat, k + n = t → q < k → skp (fun k => btw ty t k 97 122) n k = e → J x 1 (ad, 0, 0) (54, [(0, .ref 500)], [], [(500, mP z t k 1 q (k - q) fa ru co), (501, .inr (.inl (0, tx)))]) := by
    intro e hte hso het n
    induction n with
    | zero =>
      intro k hk hqk hQ
      have ek : k = e := hQ
      subst ek
      refine J.run (sn_X7_token F) 10 [1, 1] (S' := (89, [(0, .ref 500)], [.int (nI k), .ref 500], [(500, mP z t k 1 q (k - q) fa ru co), (501, .inr (.inl (0, tx)))])) (ob := [¬ (nI (k - q)) = 0, (1 : Int32) = 1]) rfl (ob_c (n_eq0 (by omega) (by omega)) (ob_c (by decide) ob_n)) ?_
      refine J.callV F hJ lk_X7_80 im_X7_byteAt se_X7_byteAt (by decide +kernel) (c_byte z tx ty htx t ht hT k 1 q (k - q) fa ru co k (by omega)) (fun k => k) (by omega) [] rfl rfl rfl rfl rfl (by decide) rfl (show List.Nodup [500, 501] by decide) (fun r ws' hk hp => ?_)
      obtain ⟨rfl, rfl⟩ := hp
      show J x 1 (ad, 0, 0) (92, [(0, .ref 500)], [.int (bat tx t k)], [(500, mP z t k 1 q (k - q) fa ru co), (501, .inr (.inl (0, tx)))])
      refine J.callS F hJ lk_X7_87 st_X7_sortOf (by decide +kernel) (c_sort (bat tx t k)) (fun k => k) (by omega) [] rfl rfl rfl (by decide) rfl (show List.Nodup [] by decide) (fun r ws' hk hp => ?_)
      obtain ⟨rfl, rfl⟩ := hp
      show J x 1 (ad, 0, 0) (95, [(0, .ref 500)], [.int (srt (bat tx t k))], [(500, mP z t k 1 q (k - q) fa ru co), (501, .inr (.inl (0, tx)))])
      rw [show srt (bat tx t k) = tso ty t k from bso hT]
      refine J.run (sn_X7_token F) 3 [1] (S' := (125, [(0, .ref 500)], [], [(500, mP z t k 1 q (k - q) fa ru co), (501, .inr (.inl (0, tx)))])) (ob := [¬ (tso ty t k) = 1]) rfl (ob_c (tso_nw (btw_out (by omega))) ob_n) ?_
      exact J.vret F hR (Nat.le_refl _) (Nat.le_refl _) rfl (by decide +kernel) ⟨rfl, keq [500, 501] rfl rfl, rfl, by rw [hte, hso]⟩
    | succ n ih =>
      intro k hk hqk hQ
      cases hb : btw ty t k 97 122
      · have ek : k = e := (skp_f (p := fun k => btw ty t k 97 122) hb).symm.trans hQ
        subst ek
        refine J.run (sn_X7_token F) 10 [1, 1] (S' := (89, [(0, .ref 500)], [.int (nI k), .ref 500], [(500, mP z t k 1 q (k - q) fa ru co), (501, .inr (.inl (0, tx)))])) (ob := [¬ (nI (k - q)) = 0, (1 : Int32) = 1]) rfl (ob_c (n_eq0 (by omega) (by omega)) (ob_c (by decide) ob_n)) ?_
        refine J.callV F hJ lk_X7_80 im_X7_byteAt se_X7_byteAt (by decide +kernel) (c_byte z tx ty htx t ht hT k 1 q (k - q) fa ru co k (by omega)) (fun k => k) (by omega) [] rfl rfl rfl rfl rfl (by decide) rfl (show List.Nodup [500, 501] by decide) (fun r ws' hk hp => ?_)
        obtain ⟨rfl, rfl⟩ := hp
        show J x 1 (ad, 0, 0) (92, [(0, .ref 500)], [.int (bat tx t k)], [(500, mP z t k 1 q (k - q) fa ru co), (501, .inr (.inl (0, tx)))])
        refine J.callS F hJ lk_X7_87 st_X7_sortOf (by decide +kernel) (c_sort (bat tx t k)) (fun k => k) (by omega) [] rfl rfl rfl (by decide) rfl (show List.Nodup [] by decide) (fun r ws' hk hp => ?_)
        obtain ⟨rfl, rfl⟩ := hp
        show J x 1 (ad, 0, 0) (95, [(0, .ref 500)], [.int (srt (bat tx t k))], [(500, mP z t k 1 q (k - q) fa ru co), (501, .inr (.inl (0, tx)))])
        rw [show srt (bat tx t k) = tso ty t k from bso hT]
        refine J.run (sn_X7_token F) 3 [1] (S' := (125, [(0, .ref 500)], [], [(500, mP z t k 1 q (k - q) fa ru co), (501, .inr (.inl (0, tx)))])) (ob := [¬ (tso ty t k) = 1]) rfl (ob_c (tso_nw hb) ob_n) ?_
        exact J.vret F hR (Nat.le_refl _) (Nat.le_refl _) rfl (by decide +kernel) ⟨rfl, keq [500, 501] rfl rfl, rfl, by rw [hte, hso]⟩
      · skip
        refine J.run (sn_X7_token F) 10 [1, 1] (S' := (89, [(0, .ref 500)], [.int (nI k), .ref 500], [(500, mP z t k 1 q (k - q) fa ru co), (501, .inr (.inl (0, tx)))])) (ob := [¬ (nI (k - q)) = 0, (1 : Int32) = 1]) rfl (ob_c (n_eq0 (by omega) (by omega)) (ob_c (by decide) ob_n)) ?_
        refine J.callV F hJ lk_X7_80 im_X7_byteAt se_X7_byteAt (by decide +kernel) (c_byte z tx ty htx t ht hT k 1 q (k - q) fa ru co k (by omega)) (fun k => k) (by omega) [] rfl rfl rfl rfl rfl (by decide) rfl (show List.Nodup [500, 501] by decide) (fun r ws' hk hp => ?_)
        obtain ⟨rfl, rfl⟩ := hp
        show J x 1 (ad, 0, 0) (92, [(0, .ref 500)], [.int (bat tx t k)], [(500, mP z t k 1 q (k - q) fa ru co), (501, .inr (.inl (0, tx)))])
        refine J.callS F hJ lk_X7_87 st_X7_sortOf (by decide +kernel) (c_sort (bat tx t k)) (fun k => k) (by omega) [] rfl rfl rfl (by decide) rfl (show List.Nodup [] by decide) (fun r ws' hk hp => ?_)
        obtain ⟨rfl, rfl⟩ := hp
        show J x 1 (ad, 0, 0) (95, [(0, .ref 500)], [.int (srt (bat tx t k))], [(500, mP z t k 1 q (k - q) fa ru co), (501, .inr (.inl (0, tx)))])
        rw [show srt (bat tx t k) = tso ty t k from bso hT]
        refine J.run (sn_X7_token F) 10 [0] (S' := (113, [(0, .ref 500)], [.ref 500], [(500, .inl (7, [.ref 501, .int (nI t), .ref 502, .ref 503, .ref 504, .ref 505, .ref 506, .ref 507, .ref 508, .ref 509, .ref 510, .int (z 11), .ref 511, .ref 512, .int (z 14), .int (z 15), .int (z 16), .int ((nI k) + 1), .int 1, .int (nI q), .int (nI (k - q)), .int fa, .int ru, .int co, .ref 513, .ref 514, .int (z 26)])), (501, .inr (.inl (0, tx)))])) (ob := [(tso ty t k) = 1]) rfl (ob_c (tso_w hb) ob_n) ?_
        refine J.run (sn_X7_token F) 6 [] (S' := (54, [(0, .ref 500)], [], [(500, .inl (7, [.ref 501, .int (nI t), .ref 502, .ref 503, .ref 504, .ref 505, .ref 506, .ref 507, .ref 508, .ref 509, .ref 510, .int (z 11), .ref 511, .ref 512, .int (z 14), .int (z 15), .int (z 16), .int ((nI k) + 1), .int 1, .int (nI q), .int ((nI (k - q)) + 1), .int fa, .int ru, .int co, .ref 513, .ref 514, .int (z 26)])), (501, .inr (.inl (0, tx)))])) (ob := []) rfl (ob_n) ?_
        exact J.cast (ih (k + 1) (by omega) (by omega) ((skp_t (p := fun k => btw ty t k 97 122) hb).symm.trans hQ)) (by rw [show k + 1 - q = (k - q) + 1 by omega]; simp only [nI_1, mP])
  have HF : ∀ (e : Nat), tke ty t q = e → tso ty t q = 2 → e ≤ t → ∀ n k : Nat, k + n = t → q < k → skp (fun k => btw ty t k 48 57) n k = e → J x 1 (ad, 0, 0) (54, [(0, .ref 500)], [], [(500, mP z t k 2 q (k - q) fa ru co), (501, .inr (.inl (0, tx)))]) := by
    intro e hte hso het n
    induction n with
    | zero =>
      intro k hk hqk hQ
      have ek : k = e := hQ
      subst ek
      refine J.run (sn_X7_token F) 10 [1, 0] (S' := (81, [(0, .ref 500)], [.int 2, .int 2], [(500, mP z t k 2 q (k - q) fa ru co), (501, .inr (.inl (0, tx)))])) (ob := [¬ (nI (k - q)) = 0, ¬ (2 : Int32) = 1]) rfl (ob_c (n_eq0 (by omega) (by omega)) (ob_c (by decide) ob_n)) ?_
      refine J.run (sn_X7_token F) 4 [0] (S' := (89, [(0, .ref 500)], [.int (nI k), .ref 500], [(500, mP z t k 2 q (k - q) fa ru co), (501, .inr (.inl (0, tx)))])) (ob := [(2 : Int32) = 2]) rfl (ob_c (by decide) ob_n) ?_
      refine J.callV F hJ lk_X7_80 im_X7_byteAt se_X7_byteAt (by decide +kernel) (c_byte z tx ty htx t ht hT k 2 q (k - q) fa ru co k (by omega)) (fun k => k) (by omega) [] rfl rfl rfl rfl rfl (by decide) rfl (show List.Nodup [500, 501] by decide) (fun r ws' hk hp => ?_)
      obtain ⟨rfl, rfl⟩ := hp
      show J x 1 (ad, 0, 0) (92, [(0, .ref 500)], [.int (bat tx t k)], [(500, mP z t k 2 q (k - q) fa ru co), (501, .inr (.inl (0, tx)))])
      refine J.callS F hJ lk_X7_87 st_X7_sortOf (by decide +kernel) (c_sort (bat tx t k)) (fun k => k) (by omega) [] rfl rfl rfl (by decide) rfl (show List.Nodup [] by decide) (fun r ws' hk hp => ?_)
      obtain ⟨rfl, rfl⟩ := hp
      show J x 1 (ad, 0, 0) (95, [(0, .ref 500)], [.int (srt (bat tx t k))], [(500, mP z t k 2 q (k - q) fa ru co), (501, .inr (.inl (0, tx)))])
      rw [show srt (bat tx t k) = tso ty t k from bso hT]
      refine J.run (sn_X7_token F) 3 [1] (S' := (125, [(0, .ref 500)], [], [(500, mP z t k 2 q (k - q) fa ru co), (501, .inr (.inl (0, tx)))])) (ob := [¬ (tso ty t k) = 2]) rfl (ob_c (tso_nd (btw_out (by omega))) ob_n) ?_
      exact J.vret F hR (Nat.le_refl _) (Nat.le_refl _) rfl (by decide +kernel) ⟨rfl, keq [500, 501] rfl rfl, rfl, by rw [hte, hso]⟩
    | succ n ih =>
      intro k hk hqk hQ
      cases hb : btw ty t k 48 57
      · have ek : k = e := (skp_f (p := fun k => btw ty t k 48 57) hb).symm.trans hQ
        subst ek
        refine J.run (sn_X7_token F) 10 [1, 0] (S' := (81, [(0, .ref 500)], [.int 2, .int 2], [(500, mP z t k 2 q (k - q) fa ru co), (501, .inr (.inl (0, tx)))])) (ob := [¬ (nI (k - q)) = 0, ¬ (2 : Int32) = 1]) rfl (ob_c (n_eq0 (by omega) (by omega)) (ob_c (by decide) ob_n)) ?_
        refine J.run (sn_X7_token F) 4 [0] (S' := (89, [(0, .ref 500)], [.int (nI k), .ref 500], [(500, mP z t k 2 q (k - q) fa ru co), (501, .inr (.inl (0, tx)))])) (ob := [(2 : Int32) = 2]) rfl (ob_c (by decide) ob_n) ?_
        refine J.callV F hJ lk_X7_80 im_X7_byteAt se_X7_byteAt (by decide +kernel) (c_byte z tx ty htx t ht hT k 2 q (k - q) fa ru co k (by omega)) (fun k => k) (by omega) [] rfl rfl rfl rfl rfl (by decide) rfl (show List.Nodup [500, 501] by decide) (fun r ws' hk hp => ?_)
        obtain ⟨rfl, rfl⟩ := hp
        show J x 1 (ad, 0, 0) (92, [(0, .ref 500)], [.int (bat tx t k)], [(500, mP z t k 2 q (k - q) fa ru co), (501, .inr (.inl (0, tx)))])
        refine J.callS F hJ lk_X7_87 st_X7_sortOf (by decide +kernel) (c_sort (bat tx t k)) (fun k => k) (by omega) [] rfl rfl rfl (by decide) rfl (show List.Nodup [] by decide) (fun r ws' hk hp => ?_)
        obtain ⟨rfl, rfl⟩ := hp
        show J x 1 (ad, 0, 0) (95, [(0, .ref 500)], [.int (srt (bat tx t k))], [(500, mP z t k 2 q (k - q) fa ru co), (501, .inr (.inl (0, tx)))])
        rw [show srt (bat tx t k) = tso ty t k from bso hT]
        refine J.run (sn_X7_token F) 3 [1] (S' := (125, [(0, .ref 500)], [], [(500, mP z t k 2 q (k - q) fa ru co), (501, .inr (.inl (0, tx)))])) (ob := [¬ (tso ty t k) = 2]) rfl (ob_c (tso_nd hb) ob_n) ?_
        exact J.vret F hR (Nat.le_refl _) (Nat.le_refl _) rfl (by decide +kernel) ⟨rfl, keq [500, 501] rfl rfl, rfl, by rw [hte, hso]⟩
      · skip
        refine J.run (sn_X7_token F) 10 [1, 0] (S' := (81, [(0, .ref 500)], [.int 2, .int 2], [(500, mP z t k 2 q (k - q) fa ru co), (501, .inr (.inl (0, tx)))])) (ob := [¬ (nI (k - q)) = 0, ¬ (2 : Int32) = 1]) rfl (ob_c (n_eq0 (by omega) (by omega)) (ob_c (by decide) ob_n)) ?_
        refine J.run (sn_X7_token F) 4 [0] (S' := (89, [(0, .ref 500)], [.int (nI k), .ref 500], [(500, mP z t k 2 q (k - q) fa ru co), (501, .inr (.inl (0, tx)))])) (ob := [(2 : Int32) = 2]) rfl (ob_c (by decide) ob_n) ?_
        refine J.callV F hJ lk_X7_80 im_X7_byteAt se_X7_byteAt (by decide +kernel) (c_byte z tx ty htx t ht hT k 2 q (k - q) fa ru co k (by omega)) (fun k => k) (by omega) [] rfl rfl rfl rfl rfl (by decide) rfl (show List.Nodup [500, 501] by decide) (fun r ws' hk hp => ?_)
        obtain ⟨rfl, rfl⟩ := hp
        show J x 1 (ad, 0, 0) (92, [(0, .ref 500)], [.int (bat tx t k)], [(500, mP z t k 2 q (k - q) fa ru co), (501, .inr (.inl (0, tx)))])
        refine J.callS F hJ lk_X7_87 st_X7_sortOf (by decide +kernel) (c_sort (bat tx t k)) (fun k => k) (by omega) [] rfl rfl rfl (by decide) rfl (show List.Nodup [] by decide) (fun r ws' hk hp => ?_)
        obtain ⟨rfl, rfl⟩ := hp
        show J x 1 (ad, 0, 0) (95, [(0, .ref 500)], [.int (srt (bat tx t k))], [(500, mP z t k 2 q (k - q) fa ru co), (501, .inr (.inl (0, tx)))])
        rw [show srt (bat tx t k) = tso ty t k from bso hT]
        refine J.run (sn_X7_token F) 10 [0] (S' := (113, [(0, .ref 500)], [.ref 500], [(500, .inl (7, [.ref 501, .int (nI t), .ref 502, .ref 503, .ref 504, .ref 505, .ref 506, .ref 507, .ref 508, .ref 509, .ref 510, .int (z 11), .ref 511, .ref 512, .int (z 14), .int (z 15), .int (z 16), .int ((nI k) + 1), .int 2, .int (nI q), .int (nI (k - q)), .int fa, .int ru, .int co, .ref 513, .ref 514, .int (z 26)])), (501, .inr (.inl (0, tx)))])) (ob := [(tso ty t k) = 2]) rfl (ob_c (tso_d hb) ob_n) ?_
        refine J.run (sn_X7_token F) 6 [] (S' := (54, [(0, .ref 500)], [], [(500, .inl (7, [.ref 501, .int (nI t), .ref 502, .ref 503, .ref 504, .ref 505, .ref 506, .ref 507, .ref 508, .ref 509, .ref 510, .int (z 11), .ref 511, .ref 512, .int (z 14), .int (z 15), .int (z 16), .int ((nI k) + 1), .int 2, .int (nI q), .int ((nI (k - q)) + 1), .int fa, .int ru, .int co, .ref 513, .ref 514, .int (z 26)])), (501, .inr (.inl (0, tx)))])) (ob := []) rfl (ob_n) ?_
        exact J.cast (ih (k + 1) (by omega) (by omega) ((skp_t (p := fun k => btw ty t k 48 57) hb).symm.trans hQ)) (by rw [show k + 1 - q = (k - q) + 1 by omega]; simp only [nI_1, mP])
  have HB : J x 1 (ad, 0, 0) (26, [(0, .ref 500)], [], [(500, mP z t q so s sz fa ru co), (501, .inr (.inl (0, tx)))]) := by
    cases hb : btw ty t q 97 122
    · cases hd : btw ty t q 48 57
      · by_cases hqt : q < t
        · cases h59 : btw ty t q 59 59
          · have hso : tso ty t q = 4 := by unfold tso; rw [hb, hd, h59, decide_eq_true hqt]; rfl
            have htk : tke ty t q = q + 1 := by unfold tke; rw [hb, hd, decide_eq_true hqt]; rfl
            refine J.run (sn_X7_token F) 8 [] (S' := (40, [(0, .ref 500)], [.int (nI q), .ref 500, .ref 500], [(500, .inl (7, [.ref 501, .int (nI t), .ref 502, .ref 503, .ref 504, .ref 505, .ref 506, .ref 507, .ref 508, .ref 509, .ref 510, .int (z 11), .ref 511, .ref 512, .int (z 14), .int (z 15), .int (z 16), .int (nI q), .int so, .int (nI q), .int (nI sz), .int fa, .int ru, .int co, .ref 513, .ref 514, .int (z 26)])), (501, .inr (.inl (0, tx)))])) (ob := []) rfl (ob_n) ?_
            refine J.callV F hJ lk_X7_80 im_X7_byteAt se_X7_byteAt (by decide +kernel) (c_byte z tx ty htx t ht hT q so q sz fa ru co q (by omega)) (fun k => k) (by omega) [.ref 500] rfl rfl rfl rfl rfl (by decide) rfl (show List.Nodup [500, 501] by decide) (fun r ws' hk hp => ?_)
            obtain ⟨rfl, rfl⟩ := hp
            show J x 1 (ad, 0, 0) (43, [(0, .ref 500)], [.int (bat tx t q), .ref 500], [(500, .inl (7, [.ref 501, .int (nI t), .ref 502, .ref 503, .ref 504, .ref 505, .ref 506, .ref 507, .ref 508, .ref 509, .ref 510, .int (z 11), .ref 511, .ref 512, .int (z 14), .int (z 15), .int (z 16), .int (nI q), .int so, .int (nI q), .int (nI sz), .int fa, .int ru, .int co, .ref 513, .ref 514, .int (z 26)])), (501, .inr (.inl (0, tx)))])
            refine J.callS F hJ lk_X7_87 st_X7_sortOf (by decide +kernel) (c_sort (bat tx t q)) (fun k => k) (by omega) [.ref 500] rfl rfl rfl (by decide) rfl (show List.Nodup [] by decide) (fun r ws' hk hp => ?_)
            obtain ⟨rfl, rfl⟩ := hp
            show J x 1 (ad, 0, 0) (46, [(0, .ref 500)], [.int (srt (bat tx t q)), .ref 500], [(500, .inl (7, [.ref 501, .int (nI t), .ref 502, .ref 503, .ref 504, .ref 505, .ref 506, .ref 507, .ref 508, .ref 509, .ref 510, .int (z 11), .ref 511, .ref 512, .int (z 14), .int (z 15), .int (z 16), .int (nI q), .int so, .int (nI q), .int (nI sz), .int fa, .int ru, .int co, .ref 513, .ref 514, .int (z 26)])), (501, .inr (.inl (0, tx)))])
            rw [show srt (bat tx t q) = tso ty t q from bso hT]
            refine J.run (sn_X7_token F) 4 [] (S' := (54, [(0, .ref 500)], [], [(500, .inl (7, [.ref 501, .int (nI t), .ref 502, .ref 503, .ref 504, .ref 505, .ref 506, .ref 507, .ref 508, .ref 509, .ref 510, .int (z 11), .ref 511, .ref 512, .int (z 14), .int (z 15), .int (z 16), .int (nI q), .int (tso ty t q), .int (nI q), .int 0, .int fa, .int ru, .int co, .ref 513, .ref 514, .int (z 26)])), (501, .inr (.inl (0, tx)))])) (ob := []) rfl (ob_n) ?_
            rw [hso]
            show J x 1 (ad, 0, 0) (54, [(0, .ref 500)], [], [(500, mP z t q 4 q 0 fa ru co), (501, .inr (.inl (0, tx)))])
            refine J.run (sn_X7_token F) 10 [0, 1] (S' := (108, [(0, .ref 500)], [.int 1, .int (nI q), .ref 500], [(500, mP z t q 4 q 0 fa ru co), (501, .inr (.inl (0, tx)))])) (ob := [(nI 0) = 0, ¬ (4 : Int32) = 0]) rfl (ob_c rfl (ob_c (by decide) ob_n)) ?_
            refine J.run (sn_X7_token F) 10 [] (S' := (55, [(0, .ref 500)], [.ref 500], [(500, .inl (7, [.ref 501, .int (nI t), .ref 502, .ref 503, .ref 504, .ref 505, .ref 506, .ref 507, .ref 508, .ref 509, .ref 510, .int (z 11), .ref 511, .ref 512, .int (z 14), .int (z 15), .int (z 16), .int ((nI q) + 1), .int 4, .int (nI q), .int ((nI 0) + 1), .int fa, .int ru, .int co, .ref 513, .ref 514, .int (z 26)])), (501, .inr (.inl (0, tx)))])) (ob := []) rfl (ob_n) ?_
            refine J.run (sn_X7_token F) 10 [1, 0, 1] (S' := (125, [(0, .ref 500)], [], [(500, .inl (7, [.ref 501, .int (nI t), .ref 502, .ref 503, .ref 504, .ref 505, .ref 506, .ref 507, .ref 508, .ref 509, .ref 510, .int (z 11), .ref 511, .ref 512, .int (z 14), .int (z 15), .int (z 16), .int ((nI q) + 1), .int 4, .int (nI q), .int ((nI 0) + 1), .int fa, .int ru, .int co, .ref 513, .ref 514, .int (z 26)])), (501, .inr (.inl (0, tx)))])) (ob := [¬ ((nI 0) + 1) = 0, ¬ (4 : Int32) = 1, ¬ (4 : Int32) = 2]) rfl (ob_c (by decide) (ob_c (by decide) (ob_c (by decide) ob_n))) ?_
            exact J.vret F hR (Nat.le_refl _) (Nat.le_refl _) rfl (by decide +kernel) ⟨rfl, keq [500, 501] rfl rfl, rfl, by rw [htk, hso, show q + 1 - q = 1 by omega]; simp only [nI_1, mP] <;> rfl⟩
          · have hso : tso ty t q = 3 := by unfold tso; rw [hb, hd, h59, decide_eq_true hqt]; rfl
            have htk : tke ty t q = q + 1 := by unfold tke; rw [hb, hd, decide_eq_true hqt]; rfl
            refine J.run (sn_X7_token F) 8 [] (S' := (40, [(0, .ref 500)], [.int (nI q), .ref 500, .ref 500], [(500, .inl (7, [.ref 501, .int (nI t), .ref 502, .ref 503, .ref 504, .ref 505, .ref 506, .ref 507, .ref 508, .ref 509, .ref 510, .int (z 11), .ref 511, .ref 512, .int (z 14), .int (z 15), .int (z 16), .int (nI q), .int so, .int (nI q), .int (nI sz), .int fa, .int ru, .int co, .ref 513, .ref 514, .int (z 26)])), (501, .inr (.inl (0, tx)))])) (ob := []) rfl (ob_n) ?_
            refine J.callV F hJ lk_X7_80 im_X7_byteAt se_X7_byteAt (by decide +kernel) (c_byte z tx ty htx t ht hT q so q sz fa ru co q (by omega)) (fun k => k) (by omega) [.ref 500] rfl rfl rfl rfl rfl (by decide) rfl (show List.Nodup [500, 501] by decide) (fun r ws' hk hp => ?_)
            obtain ⟨rfl, rfl⟩ := hp
            show J x 1 (ad, 0, 0) (43, [(0, .ref 500)], [.int (bat tx t q), .ref 500], [(500, .inl (7, [.ref 501, .int (nI t), .ref 502, .ref 503, .ref 504, .ref 505, .ref 506, .ref 507, .ref 508, .ref 509, .ref 510, .int (z 11), .ref 511, .ref 512, .int (z 14), .int (z 15), .int (z 16), .int (nI q), .int so, .int (nI q), .int (nI sz), .int fa, .int ru, .int co, .ref 513, .ref 514, .int (z 26)])), (501, .inr (.inl (0, tx)))])
            refine J.callS F hJ lk_X7_87 st_X7_sortOf (by decide +kernel) (c_sort (bat tx t q)) (fun k => k) (by omega) [.ref 500] rfl rfl rfl (by decide) rfl (show List.Nodup [] by decide) (fun r ws' hk hp => ?_)
            obtain ⟨rfl, rfl⟩ := hp
            show J x 1 (ad, 0, 0) (46, [(0, .ref 500)], [.int (srt (bat tx t q)), .ref 500], [(500, .inl (7, [.ref 501, .int (nI t), .ref 502, .ref 503, .ref 504, .ref 505, .ref 506, .ref 507, .ref 508, .ref 509, .ref 510, .int (z 11), .ref 511, .ref 512, .int (z 14), .int (z 15), .int (z 16), .int (nI q), .int so, .int (nI q), .int (nI sz), .int fa, .int ru, .int co, .ref 513, .ref 514, .int (z 26)])), (501, .inr (.inl (0, tx)))])
            rw [show srt (bat tx t q) = tso ty t q from bso hT]
            refine J.run (sn_X7_token F) 4 [] (S' := (54, [(0, .ref 500)], [], [(500, .inl (7, [.ref 501, .int (nI t), .ref 502, .ref 503, .ref 504, .ref 505, .ref 506, .ref 507, .ref 508, .ref 509, .ref 510, .int (z 11), .ref 511, .ref 512, .int (z 14), .int (z 15), .int (z 16), .int (nI q), .int (tso ty t q), .int (nI q), .int 0, .int fa, .int ru, .int co, .ref 513, .ref 514, .int (z 26)])), (501, .inr (.inl (0, tx)))])) (ob := []) rfl (ob_n) ?_
            rw [hso]
            show J x 1 (ad, 0, 0) (54, [(0, .ref 500)], [], [(500, mP z t q 3 q 0 fa ru co), (501, .inr (.inl (0, tx)))])
            refine J.run (sn_X7_token F) 10 [0, 1] (S' := (108, [(0, .ref 500)], [.int 1, .int (nI q), .ref 500], [(500, mP z t q 3 q 0 fa ru co), (501, .inr (.inl (0, tx)))])) (ob := [(nI 0) = 0, ¬ (3 : Int32) = 0]) rfl (ob_c rfl (ob_c (by decide) ob_n)) ?_
            refine J.run (sn_X7_token F) 10 [] (S' := (55, [(0, .ref 500)], [.ref 500], [(500, .inl (7, [.ref 501, .int (nI t), .ref 502, .ref 503, .ref 504, .ref 505, .ref 506, .ref 507, .ref 508, .ref 509, .ref 510, .int (z 11), .ref 511, .ref 512, .int (z 14), .int (z 15), .int (z 16), .int ((nI q) + 1), .int 3, .int (nI q), .int ((nI 0) + 1), .int fa, .int ru, .int co, .ref 513, .ref 514, .int (z 26)])), (501, .inr (.inl (0, tx)))])) (ob := []) rfl (ob_n) ?_
            refine J.run (sn_X7_token F) 10 [1, 0, 1] (S' := (125, [(0, .ref 500)], [], [(500, .inl (7, [.ref 501, .int (nI t), .ref 502, .ref 503, .ref 504, .ref 505, .ref 506, .ref 507, .ref 508, .ref 509, .ref 510, .int (z 11), .ref 511, .ref 512, .int (z 14), .int (z 15), .int (z 16), .int ((nI q) + 1), .int 3, .int (nI q), .int ((nI 0) + 1), .int fa, .int ru, .int co, .ref 513, .ref 514, .int (z 26)])), (501, .inr (.inl (0, tx)))])) (ob := [¬ ((nI 0) + 1) = 0, ¬ (3 : Int32) = 1, ¬ (3 : Int32) = 2]) rfl (ob_c (by decide) (ob_c (by decide) (ob_c (by decide) ob_n))) ?_
            exact J.vret F hR (Nat.le_refl _) (Nat.le_refl _) rfl (by decide +kernel) ⟨rfl, keq [500, 501] rfl rfl, rfl, by rw [htk, hso, show q + 1 - q = 1 by omega]; simp only [nI_1, mP] <;> rfl⟩
        · have hso : tso ty t q = 0 := by unfold tso; rw [hb, hd, btw_out (by omega), decide_eq_false hqt]; rfl
          have htk : tke ty t q = q := by unfold tke; rw [hb, hd, decide_eq_false hqt]; rfl
          refine J.run (sn_X7_token F) 8 [] (S' := (40, [(0, .ref 500)], [.int (nI q), .ref 500, .ref 500], [(500, .inl (7, [.ref 501, .int (nI t), .ref 502, .ref 503, .ref 504, .ref 505, .ref 506, .ref 507, .ref 508, .ref 509, .ref 510, .int (z 11), .ref 511, .ref 512, .int (z 14), .int (z 15), .int (z 16), .int (nI q), .int so, .int (nI q), .int (nI sz), .int fa, .int ru, .int co, .ref 513, .ref 514, .int (z 26)])), (501, .inr (.inl (0, tx)))])) (ob := []) rfl (ob_n) ?_
          refine J.callV F hJ lk_X7_80 im_X7_byteAt se_X7_byteAt (by decide +kernel) (c_byte z tx ty htx t ht hT q so q sz fa ru co q (by omega)) (fun k => k) (by omega) [.ref 500] rfl rfl rfl rfl rfl (by decide) rfl (show List.Nodup [500, 501] by decide) (fun r ws' hk hp => ?_)
          obtain ⟨rfl, rfl⟩ := hp
          show J x 1 (ad, 0, 0) (43, [(0, .ref 500)], [.int (bat tx t q), .ref 500], [(500, .inl (7, [.ref 501, .int (nI t), .ref 502, .ref 503, .ref 504, .ref 505, .ref 506, .ref 507, .ref 508, .ref 509, .ref 510, .int (z 11), .ref 511, .ref 512, .int (z 14), .int (z 15), .int (z 16), .int (nI q), .int so, .int (nI q), .int (nI sz), .int fa, .int ru, .int co, .ref 513, .ref 514, .int (z 26)])), (501, .inr (.inl (0, tx)))])
          refine J.callS F hJ lk_X7_87 st_X7_sortOf (by decide +kernel) (c_sort (bat tx t q)) (fun k => k) (by omega) [.ref 500] rfl rfl rfl (by decide) rfl (show List.Nodup [] by decide) (fun r ws' hk hp => ?_)
          obtain ⟨rfl, rfl⟩ := hp
          show J x 1 (ad, 0, 0) (46, [(0, .ref 500)], [.int (srt (bat tx t q)), .ref 500], [(500, .inl (7, [.ref 501, .int (nI t), .ref 502, .ref 503, .ref 504, .ref 505, .ref 506, .ref 507, .ref 508, .ref 509, .ref 510, .int (z 11), .ref 511, .ref 512, .int (z 14), .int (z 15), .int (z 16), .int (nI q), .int so, .int (nI q), .int (nI sz), .int fa, .int ru, .int co, .ref 513, .ref 514, .int (z 26)])), (501, .inr (.inl (0, tx)))])
          rw [show srt (bat tx t q) = tso ty t q from bso hT]
          refine J.run (sn_X7_token F) 4 [] (S' := (54, [(0, .ref 500)], [], [(500, .inl (7, [.ref 501, .int (nI t), .ref 502, .ref 503, .ref 504, .ref 505, .ref 506, .ref 507, .ref 508, .ref 509, .ref 510, .int (z 11), .ref 511, .ref 512, .int (z 14), .int (z 15), .int (z 16), .int (nI q), .int (tso ty t q), .int (nI q), .int 0, .int fa, .int ru, .int co, .ref 513, .ref 514, .int (z 26)])), (501, .inr (.inl (0, tx)))])) (ob := []) rfl (ob_n) ?_
          rw [hso]
          show J x 1 (ad, 0, 0) (54, [(0, .ref 500)], [], [(500, mP z t q 0 q 0 fa ru co), (501, .inr (.inl (0, tx)))])
          refine J.run (sn_X7_token F) 10 [0, 0, 0] (S' := (76, [(0, .ref 500)], [], [(500, mP z t q 0 q 0 fa ru co), (501, .inr (.inl (0, tx)))])) (ob := [(nI 0) = 0, (0 : Int32) = 0, ¬ (0 : Int32) = 1]) rfl (ob_c rfl (ob_c (by decide) (ob_c (by decide) ob_n))) ?_
          refine J.run (sn_X7_token F) 4 [1] (S' := (125, [(0, .ref 500)], [], [(500, mP z t q 0 q 0 fa ru co), (501, .inr (.inl (0, tx)))])) (ob := [¬ (0 : Int32) = 2]) rfl (ob_c (by decide) ob_n) ?_
          exact J.vret F hR (Nat.le_refl _) (Nat.le_refl _) rfl (by decide +kernel) ⟨rfl, keq [500, 501] rfl rfl, rfl, by rw [htk, hso, Nat.sub_self]⟩
      · have hso : tso ty t q = 2 := tso_d hd
        have htk : tke ty t q = skq ty t 48 57 q := by unfold tke; rw [hb, hd]; rfl
        have hqt := btw_lt hd
        have hb := hd
        refine J.run (sn_X7_token F) 8 [] (S' := (40, [(0, .ref 500)], [.int (nI q), .ref 500, .ref 500], [(500, .inl (7, [.ref 501, .int (nI t), .ref 502, .ref 503, .ref 504, .ref 505, .ref 506, .ref 507, .ref 508, .ref 509, .ref 510, .int (z 11), .ref 511, .ref 512, .int (z 14), .int (z 15), .int (z 16), .int (nI q), .int so, .int (nI q), .int (nI sz), .int fa, .int ru, .int co, .ref 513, .ref 514, .int (z 26)])), (501, .inr (.inl (0, tx)))])) (ob := []) rfl (ob_n) ?_
        refine J.callV F hJ lk_X7_80 im_X7_byteAt se_X7_byteAt (by decide +kernel) (c_byte z tx ty htx t ht hT q so q sz fa ru co q (by omega)) (fun k => k) (by omega) [.ref 500] rfl rfl rfl rfl rfl (by decide) rfl (show List.Nodup [500, 501] by decide) (fun r ws' hk hp => ?_)
        obtain ⟨rfl, rfl⟩ := hp
        show J x 1 (ad, 0, 0) (43, [(0, .ref 500)], [.int (bat tx t q), .ref 500], [(500, .inl (7, [.ref 501, .int (nI t), .ref 502, .ref 503, .ref 504, .ref 505, .ref 506, .ref 507, .ref 508, .ref 509, .ref 510, .int (z 11), .ref 511, .ref 512, .int (z 14), .int (z 15), .int (z 16), .int (nI q), .int so, .int (nI q), .int (nI sz), .int fa, .int ru, .int co, .ref 513, .ref 514, .int (z 26)])), (501, .inr (.inl (0, tx)))])
        refine J.callS F hJ lk_X7_87 st_X7_sortOf (by decide +kernel) (c_sort (bat tx t q)) (fun k => k) (by omega) [.ref 500] rfl rfl rfl (by decide) rfl (show List.Nodup [] by decide) (fun r ws' hk hp => ?_)
        obtain ⟨rfl, rfl⟩ := hp
        show J x 1 (ad, 0, 0) (46, [(0, .ref 500)], [.int (srt (bat tx t q)), .ref 500], [(500, .inl (7, [.ref 501, .int (nI t), .ref 502, .ref 503, .ref 504, .ref 505, .ref 506, .ref 507, .ref 508, .ref 509, .ref 510, .int (z 11), .ref 511, .ref 512, .int (z 14), .int (z 15), .int (z 16), .int (nI q), .int so, .int (nI q), .int (nI sz), .int fa, .int ru, .int co, .ref 513, .ref 514, .int (z 26)])), (501, .inr (.inl (0, tx)))])
        rw [show srt (bat tx t q) = tso ty t q from bso hT]
        refine J.run (sn_X7_token F) 4 [] (S' := (54, [(0, .ref 500)], [], [(500, .inl (7, [.ref 501, .int (nI t), .ref 502, .ref 503, .ref 504, .ref 505, .ref 506, .ref 507, .ref 508, .ref 509, .ref 510, .int (z 11), .ref 511, .ref 512, .int (z 14), .int (z 15), .int (z 16), .int (nI q), .int (tso ty t q), .int (nI q), .int 0, .int fa, .int ru, .int co, .ref 513, .ref 514, .int (z 26)])), (501, .inr (.inl (0, tx)))])) (ob := []) rfl (ob_n) ?_
        rw [hso]
        show J x 1 (ad, 0, 0) (54, [(0, .ref 500)], [], [(500, mP z t q 2 q 0 fa ru co), (501, .inr (.inl (0, tx)))])
        refine J.run (sn_X7_token F) 10 [0, 1] (S' := (108, [(0, .ref 500)], [.int 1, .int (nI q), .ref 500], [(500, mP z t q 2 q 0 fa ru co), (501, .inr (.inl (0, tx)))])) (ob := [(nI 0) = 0, ¬ (2 : Int32) = 0]) rfl (ob_c rfl (ob_c (by decide) ob_n)) ?_
        refine J.run (sn_X7_token F) 9 [] (S' := (54, [(0, .ref 500)], [], [(500, .inl (7, [.ref 501, .int (nI t), .ref 502, .ref 503, .ref 504, .ref 505, .ref 506, .ref 507, .ref 508, .ref 509, .ref 510, .int (z 11), .ref 511, .ref 512, .int (z 14), .int (z 15), .int (z 16), .int ((nI q) + 1), .int 2, .int (nI q), .int ((nI 0) + 1), .int fa, .int ru, .int co, .ref 513, .ref 514, .int (z 26)])), (501, .inr (.inl (0, tx)))])) (ob := []) rfl (ob_n) ?_
        exact J.cast (HF (skq ty t 48 57 q) htk hso (skq_le hs9) (t - q - 1) (q + 1) (by omega) (by omega) (by have := skp_t (p := fun k => btw ty t k 48 57) (k := t - q - 1) hb; rw [← this, show t - q - 1 + 1 = t - q by omega]; rfl)) (by rw [show q + 1 - q = 1 by omega]; simp only [nI_1, mP] <;> rfl)
    · have hso : tso ty t q = 1 := tso_w hb
      have htk : tke ty t q = skq ty t 97 122 q := by unfold tke; rw [hb]; rfl
      have hqt := btw_lt hb
      refine J.run (sn_X7_token F) 8 [] (S' := (40, [(0, .ref 500)], [.int (nI q), .ref 500, .ref 500], [(500, .inl (7, [.ref 501, .int (nI t), .ref 502, .ref 503, .ref 504, .ref 505, .ref 506, .ref 507, .ref 508, .ref 509, .ref 510, .int (z 11), .ref 511, .ref 512, .int (z 14), .int (z 15), .int (z 16), .int (nI q), .int so, .int (nI q), .int (nI sz), .int fa, .int ru, .int co, .ref 513, .ref 514, .int (z 26)])), (501, .inr (.inl (0, tx)))])) (ob := []) rfl (ob_n) ?_
      refine J.callV F hJ lk_X7_80 im_X7_byteAt se_X7_byteAt (by decide +kernel) (c_byte z tx ty htx t ht hT q so q sz fa ru co q (by omega)) (fun k => k) (by omega) [.ref 500] rfl rfl rfl rfl rfl (by decide) rfl (show List.Nodup [500, 501] by decide) (fun r ws' hk hp => ?_)
      obtain ⟨rfl, rfl⟩ := hp
      show J x 1 (ad, 0, 0) (43, [(0, .ref 500)], [.int (bat tx t q), .ref 500], [(500, .inl (7, [.ref 501, .int (nI t), .ref 502, .ref 503, .ref 504, .ref 505, .ref 506, .ref 507, .ref 508, .ref 509, .ref 510, .int (z 11), .ref 511, .ref 512, .int (z 14), .int (z 15), .int (z 16), .int (nI q), .int so, .int (nI q), .int (nI sz), .int fa, .int ru, .int co, .ref 513, .ref 514, .int (z 26)])), (501, .inr (.inl (0, tx)))])
      refine J.callS F hJ lk_X7_87 st_X7_sortOf (by decide +kernel) (c_sort (bat tx t q)) (fun k => k) (by omega) [.ref 500] rfl rfl rfl (by decide) rfl (show List.Nodup [] by decide) (fun r ws' hk hp => ?_)
      obtain ⟨rfl, rfl⟩ := hp
      show J x 1 (ad, 0, 0) (46, [(0, .ref 500)], [.int (srt (bat tx t q)), .ref 500], [(500, .inl (7, [.ref 501, .int (nI t), .ref 502, .ref 503, .ref 504, .ref 505, .ref 506, .ref 507, .ref 508, .ref 509, .ref 510, .int (z 11), .ref 511, .ref 512, .int (z 14), .int (z 15), .int (z 16), .int (nI q), .int so, .int (nI q), .int (nI sz), .int fa, .int ru, .int co, .ref 513, .ref 514, .int (z 26)])), (501, .inr (.inl (0, tx)))])
      rw [show srt (bat tx t q) = tso ty t q from bso hT]
      refine J.run (sn_X7_token F) 4 [] (S' := (54, [(0, .ref 500)], [], [(500, .inl (7, [.ref 501, .int (nI t), .ref 502, .ref 503, .ref 504, .ref 505, .ref 506, .ref 507, .ref 508, .ref 509, .ref 510, .int (z 11), .ref 511, .ref 512, .int (z 14), .int (z 15), .int (z 16), .int (nI q), .int (tso ty t q), .int (nI q), .int 0, .int fa, .int ru, .int co, .ref 513, .ref 514, .int (z 26)])), (501, .inr (.inl (0, tx)))])) (ob := []) rfl (ob_n) ?_
      rw [hso]
      show J x 1 (ad, 0, 0) (54, [(0, .ref 500)], [], [(500, mP z t q 1 q 0 fa ru co), (501, .inr (.inl (0, tx)))])
      refine J.run (sn_X7_token F) 10 [0, 1] (S' := (108, [(0, .ref 500)], [.int 1, .int (nI q), .ref 500], [(500, mP z t q 1 q 0 fa ru co), (501, .inr (.inl (0, tx)))])) (ob := [(nI 0) = 0, ¬ (1 : Int32) = 0]) rfl (ob_c rfl (ob_c (by decide) ob_n)) ?_
      refine J.run (sn_X7_token F) 9 [] (S' := (54, [(0, .ref 500)], [], [(500, .inl (7, [.ref 501, .int (nI t), .ref 502, .ref 503, .ref 504, .ref 505, .ref 506, .ref 507, .ref 508, .ref 509, .ref 510, .int (z 11), .ref 511, .ref 512, .int (z 14), .int (z 15), .int (z 16), .int ((nI q) + 1), .int 1, .int (nI q), .int ((nI 0) + 1), .int fa, .int ru, .int co, .ref 513, .ref 514, .int (z 26)])), (501, .inr (.inl (0, tx)))])) (ob := []) rfl (ob_n) ?_
      exact J.cast (HW (skq ty t 97 122 q) htk hso (skq_le hs9) (t - q - 1) (q + 1) (by omega) (by omega) (by have := skp_t (p := fun k => btw ty t k 97 122) (k := t - q - 1) hb; rw [← this, show t - q - 1 + 1 = t - q by omega]; rfl)) (by rw [show q + 1 - q = 1 by omega]; simp only [nI_1, mP] <;> rfl)
  have H : ∀ n k : Nat, k + n = t → skp (fun k => btw ty t k 32 32) n k = q → J x 1 (ad, 0, 0) (0, [(0, .ref 500)], [], [(500, mP z t k so s sz fa ru co), (501, .inr (.inl (0, tx)))]) := by
    intro n
    induction n with
    | zero =>
      intro k hk hQ
      have ek : k = q := hQ
      subst ek
      refine J.run (sn_X7_token F) 3 [] (S' := (5, [(0, .ref 500)], [.int (nI k), .ref 500], [(500, mP z t k so s sz fa ru co), (501, .inr (.inl (0, tx)))])) (ob := []) rfl (ob_n) ?_
      refine J.callV F hJ lk_X7_80 im_X7_byteAt se_X7_byteAt (by decide +kernel) (c_byte z tx ty htx t ht hT k so s sz fa ru co k (by omega)) (fun k => k) (by omega) [] rfl rfl rfl rfl rfl (by decide) rfl (show List.Nodup [500, 501] by decide) (fun r ws' hk hp => ?_)
      obtain ⟨rfl, rfl⟩ := hp
      show J x 1 (ad, 0, 0) (8, [(0, .ref 500)], [.int (bat tx t k)], [(500, mP z t k so s sz fa ru co), (501, .inr (.inl (0, tx)))])
      refine J.run (sn_X7_token F) 2 [1] (S' := (26, [(0, .ref 500)], [], [(500, mP z t k so s sz fa ru co), (501, .inr (.inl (0, tx)))])) (ob := [¬ (bat tx t k) = 32]) rfl (ob_c (of_decide_eq_false ((b32 hT).trans (btw_out (by omega)))) ob_n) ?_
      exact HB
    | succ n ih =>
      intro k hk hQ
      cases hb : btw ty t k 32 32
      · have ek : k = q := (skp_f (p := fun k => btw ty t k 32 32) hb).symm.trans hQ
        subst ek
        refine J.run (sn_X7_token F) 3 [] (S' := (5, [(0, .ref 500)], [.int (nI k), .ref 500], [(500, mP z t k so s sz fa ru co), (501, .inr (.inl (0, tx)))])) (ob := []) rfl (ob_n) ?_
        refine J.callV F hJ lk_X7_80 im_X7_byteAt se_X7_byteAt (by decide +kernel) (c_byte z tx ty htx t ht hT k so s sz fa ru co k (by omega)) (fun k => k) (by omega) [] rfl rfl rfl rfl rfl (by decide) rfl (show List.Nodup [500, 501] by decide) (fun r ws' hk hp => ?_)
        obtain ⟨rfl, rfl⟩ := hp
        show J x 1 (ad, 0, 0) (8, [(0, .ref 500)], [.int (bat tx t k)], [(500, mP z t k so s sz fa ru co), (501, .inr (.inl (0, tx)))])
        refine J.run (sn_X7_token F) 2 [1] (S' := (26, [(0, .ref 500)], [], [(500, mP z t k so s sz fa ru co), (501, .inr (.inl (0, tx)))])) (ob := [¬ (bat tx t k) = 32]) rfl (ob_c (of_decide_eq_false ((b32 hT).trans hb)) ob_n) ?_
        exact HB
      · skip
        refine J.run (sn_X7_token F) 3 [] (S' := (5, [(0, .ref 500)], [.int (nI k), .ref 500], [(500, mP z t k so s sz fa ru co), (501, .inr (.inl (0, tx)))])) (ob := []) rfl (ob_n) ?_
        refine J.callV F hJ lk_X7_80 im_X7_byteAt se_X7_byteAt (by decide +kernel) (c_byte z tx ty htx t ht hT k so s sz fa ru co k (by omega)) (fun k => k) (by omega) [] rfl rfl rfl rfl rfl (by decide) rfl (show List.Nodup [500, 501] by decide) (fun r ws' hk hp => ?_)
        obtain ⟨rfl, rfl⟩ := hp
        show J x 1 (ad, 0, 0) (8, [(0, .ref 500)], [.int (bat tx t k)], [(500, mP z t k so s sz fa ru co), (501, .inr (.inl (0, tx)))])
        refine J.run (sn_X7_token F) 9 [0] (S' := (0, [(0, .ref 500)], [], [(500, .inl (7, [.ref 501, .int (nI t), .ref 502, .ref 503, .ref 504, .ref 505, .ref 506, .ref 507, .ref 508, .ref 509, .ref 510, .int (z 11), .ref 511, .ref 512, .int (z 14), .int (z 15), .int (z 16), .int ((nI k) + 1), .int so, .int (nI s), .int (nI sz), .int fa, .int ru, .int co, .ref 513, .ref 514, .int (z 26)])), (501, .inr (.inl (0, tx)))])) (ob := [(bat tx t k) = 32]) rfl (ob_c (of_decide_eq_true ((b32 hT).trans hb)) ob_n) ?_
        exact J.cast (ih (k + 1) (by omega) ((skp_t (p := fun k => btw ty t k 32 32) hb).symm.trans hQ)) (by simp only [nI_1, mP])
  exact H (t - a) a (by omega) hS
