/-! small words of the two agree; the books keep their bounds -/
theorem i_succ_le {x t : Int32} (h : x < t) : x + 1 ≤ t := by
  rw [Int32.lt_iff_toInt_lt] at h
  rw [Int32.le_iff_toInt_le, Int32.toInt_add, show (1 : Int32).toInt = 1 from rfl]
  have h1 := Int32.toInt_lt t
  have h2 := Int32.le_toInt x
  rw [Int.bmod_eq_of_le] <;> omega
theorem i_le4 {x : Int32} {n : Nat} (h0 : x = nI n) (hn : n ≤ 4) : x ≤ 4 := by rw [h0]; exact n_le (b := 4) (by omega) (by decide) hn
theorem am_in {h : Nat → Int32} {n : Nat} (hn : n ≤ 4) (h0 : h 0 = nI n) (q : Int32) : amB q (h 0) = inB q 0 (((1 : Int32) <<< ((h 0) &&& 31)) - 1) := by
  unfold amB inB
  rw [h0, shl12 n (by omega), show (1 : Int32) = nI 1 from rfl, nI_sub Nat.one_le_two_pow]
  have hp : 2 ^ n ≤ 16 := Nat.le_trans (Nat.pow_le_pow_right (by decide) hn) (by decide)
  have hp1 : 1 ≤ 2 ^ n := Nat.one_le_two_pow
  generalize 2 ^ n = a at *
  have e : decide (nI a ≤ q) = decide (nI (a - 1) < q) := by
    apply decide_eq_decide.mpr
    rw [Int32.le_iff_toInt_le, Int32.lt_iff_toInt_lt, nI_toInt (by omega), nI_toInt (by omega)]
    omega
  rw [e]
theorem im_in {h : Nat → Int32} {n : Nat} (hn : n ≤ 4) (h0 : h 0 = nI n) (m : Int32) : imB m (h 0) = inB m 0 (h 0 - 1) := by
  unfold imB inB
  rw [h0]
  have e : (!decide (4 ≤ m) && !decide (nI n ≤ m)) = !decide (nI n - 1 < m) := by
    have e1 : (nI n - 1).toInt = (n : Int) - 1 := by
      rw [Int32.toInt_sub, nI_toInt (by omega), show (1 : Int32).toInt = 1 from rfl, Int.bmod_eq_of_le] <;> omega
    have a1 : (4 : Int32) ≤ m ↔ 4 ≤ m.toInt := by rw [Int32.le_iff_toInt_le]; exact Iff.rfl
    have a2 : nI n ≤ m ↔ (n : Int) ≤ m.toInt := by rw [Int32.le_iff_toInt_le, nI_toInt (by omega)]
    have a3 : nI n - 1 < m ↔ (n : Int) - 1 < m.toInt := by rw [Int32.lt_iff_toInt_lt, e1]
    rw [decide_eq_decide.mpr a1, decide_eq_decide.mpr a2, decide_eq_decide.mpr a3]
    by_cases g : (n : Int) ≤ m.toInt
    · rw [decide_eq_true g, decide_eq_true (show (n : Int) - 1 < m.toInt by omega)]
      cases decide (4 ≤ m.toInt) <;> rfl
    · rw [decide_eq_false g, decide_eq_false (show ¬ (n : Int) - 1 < m.toInt by omega), decide_eq_false (show ¬ (4 : Int) ≤ m.toInt by omega)]
      rfl
  rw [e]
theorem ik_in (k : Int32) : ikB k = inB k 0 2 := rfl
theorem bc_16 : ∀ k, k < 16 → bcI (nI k) = onI (nI k) := by decide +kernel
theorem voF_f {h : Nat → Int32} {k j : Nat} {best : Int32} (e : amB (nI j) (h 0) = false) : voF h (k + 1) j best = best := by show (bif amB (nI j) (h 0) then _ else best) = _; rw [e]; rfl
theorem vo_eq {h : Nat → Int32} {n : Nat} (hn : n ≤ 4) (h0 : h 0 = nI n) : ∀ (k j : Nat) (best : Int32), j + k = 16 → (best = -1 ∨ ∃ i, i < 16 ∧ best = nI i) → voF h k j best = mvF h k j best := by
  intro k
  induction k with
  | zero => intro j best _ _; rfl
  | succ k ih =>
    intro j best hj hb
    have hj16 : j < 16 := by omega
    have eG : voG h (nI j) best = mvG h (nI j) best := by
      unfold voG mvG
      by_cases e : best = -1
      · rw [if_pos e, if_pos e]
      · rw [if_neg e, if_neg e]
        obtain ⟨i, hi, rfl⟩ := hb.resolve_left e
        rw [bc_16 i hi, bc_16 j hj16]
    have hG : mvG h (nI j) best = -1 ∨ ∃ i, i < 16 ∧ mvG h (nI j) best = nI i := by
      unfold mvG
      by_cases e : best = -1
      · rw [if_pos e]
        by_cases e2 : 12 ≤ shS h (nI j) 4
        · rw [if_pos e2]; exact Or.inr ⟨j, hj16, rfl⟩
        · rw [if_neg e2]; exact hb
      · rw [if_neg e]
        by_cases e3 : onI best ≤ onI (nI j)
        · rw [if_pos e3]; exact hb
        · rw [if_neg e3]
          by_cases e2 : 12 ≤ shS h (nI j) 4
          · rw [if_pos e2]; exact Or.inr ⟨j, hj16, rfl⟩
          · rw [if_neg e2]; exact hb
    have hA := am_in hn h0 (nI j)
    cases hS : inB (nI j) 0 (((1 : Int32) <<< ((h 0) &&& 31)) - 1) with
    | false => rw [voF_f (hA.trans hS), mvF_f hS]
    | true => rw [voF_s (hA.trans hS), mvF_s hS, eG]; exact ih (j + 1) _ (by omega) hG
theorem voices_eq {h : Nat → Int32} {n : Nat} (hn : n ≤ 4) (h0 : h 0 = nI n) : voF h 15 1 (-1) = mvF h 15 1 (-1) := vo_eq hn h0 15 1 (-1) rfl (Or.inl rfl)
/-! a beat keeps the seats -/
theorem seat_next {n j br t a e w : Int32} {q : Bool} (h : Seat n j br t a e) (ht : ¬ n ≤ j → 1 ≤ t) : Seat n j br t (nA (q && canB a w) br t a e) (nE (q && canB a w) br t a e) := by
  refine ⟨fun hn => ?_, fun hn => ?_⟩
  · obtain ⟨hb, ha⟩ := h.1 hn
    refine ⟨hb, ?_⟩
    rw [seat_no h hn]
    show trA br t a e = 0
    unfold trA
    rw [if_pos (by rw [hb, ha]; decide), ha]
  · have h1 := h.2 hn
    have h2 := ht hn
    cases (q && canB a w) with
    | true => exact h2
    | false =>
      show trR br t a e + 1 ≤ t
      unfold trR
      by_cases e1 : br ≤ a
      · rw [if_pos e1]; exact h1
      · rw [if_neg e1]
        by_cases e2 : t ≤ e + 1
        · rw [if_pos e2]; exact h2
        · rw [if_neg e2]; exact i_succ_le (Int32.not_le.mp e2)
def Rok (h : Nat → Int32) : Prop := (¬ h 0 ≤ 0 → 1 ≤ h 6) ∧ (¬ h 0 ≤ 1 → 1 ≤ h 7) ∧ (¬ h 0 ≤ 2 → 1 ≤ h 8) ∧ (¬ h 0 ≤ 3 → 1 ≤ h 9)
theorem seats_next {h b : Nat → Int32} (H : Seats h b) (R : Rok h) (s : Int32) : Seats h (play h b s) := by
  obtain ⟨h0, h1, h2, h3⟩ := H
  obtain ⟨r0, r1, r2, r3⟩ := R
  refine ⟨?_, ?_, ?_, ?_⟩
  · exact seat_next (q := hB s 0) (w := b 17) h0 r0
  · exact seat_next (q := hB s 1) (w := b 18) h1 r1
  · exact seat_next (q := hB s 2) (w := b 19) h2 r2
  · exact seat_next (q := hB s 3) (w := b 20) h3 r3
def Kok (b : Nat → Int32) : Prop := b 0 = 0 ∨ b 0 = 1 ∨ b 0 = 2
/-- what a book keeps from beat to beat -/
def Bok (h b : Nat → Int32) : Prop := Seats h b ∧ Kok b
theorem Bok_play {h b : Nat → Int32} (H : Bok h b) (R : Rok h) (s : Int32) : Bok h (play h b s) := ⟨seats_next H.1 R s, H.2⟩
/-- alike on the places that are kept -/
def Eq25 (b c : Nat → Int32) : Prop := ∀ k, k < 25 → b k = c k
theorem Bok_eq {h b c : Nat → Int32} (e : Eq25 b c) (H : Bok h b) : Bok h c := by
  obtain ⟨⟨h0, h1, h2, h3⟩, hk⟩ := H
  unfold Bok Seats Kok at *
  rw [← e 9 (by decide), ← e 10 (by decide), ← e 11 (by decide), ← e 12 (by decide), ← e 13 (by decide), ← e 14 (by decide), ← e 15 (by decide), ← e 16 (by decide), ← e 0 (by decide)]
  exact ⟨⟨h0, h1, h2, h3⟩, hk⟩
theorem who_eq {b c : Nat → Int32} (e : Eq25 b c) (s : Int32) : who b s = who c s := by
  show bU (spk b s) 4 = bU (spk c s) 4
  simp only [bU_4, bU_3, bU_2, bU_1, spk_0, spk_1, spk_2, spk_3, e 9 (by decide), e 10 (by decide), e 11 (by decide), e 12 (by decide), e 17 (by decide), e 18 (by decide), e 19 (by decide), e 20 (by decide)]
