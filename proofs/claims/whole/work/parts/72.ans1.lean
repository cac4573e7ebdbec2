/-! the best answer: counts, weights, sets as numbers -/
def cn (t : Nat) : Nat → Nat
  | 0 => 0
  | k + 1 => cn t k + (bif t.testBit k then 1 else 0)
theorem cn_le (t : Nat) : ∀ k, cn t k ≤ k
  | 0 => Nat.le_refl _
  | k + 1 => by
    have := cn_le t k
    show cn t k + _ ≤ k + 1
    cases t.testBit k with
    | true => show cn t k + 1 ≤ _; omega
    | false => show cn t k + 0 ≤ _; omega
theorem cn_mono {s t : Nat} (h : ∀ j, s.testBit j = true → t.testBit j = true) : ∀ k, cn s k ≤ cn t k
  | 0 => Nat.le_refl _
  | k + 1 => by
    have := cn_mono h k
    show cn s k + _ ≤ cn t k + _
    cases hs : s.testBit k with
    | true => rw [h k hs]; exact Nat.add_le_add_right this _
    | false => show cn s k + 0 ≤ _; omega
theorem cn_flip {t i : Nat} (hb : t.testBit i = true) : ∀ k, cn t k = cn (t ^^^ 2 ^ i) k + (if i < k then 1 else 0)
  | 0 => rfl
  | k + 1 => by
    have ih := cn_flip hb k
    show cn t k + (bif t.testBit k then 1 else 0) = cn (t ^^^ 2 ^ i) k + (bif (t ^^^ 2 ^ i).testBit k then 1 else 0) + _
    rw [ih, Nat.testBit_xor, Nat.testBit_two_pow]
    by_cases e : i = k
    · subst e
      rw [hb, if_neg (Nat.lt_irrefl i), if_pos (Nat.lt_succ_self i), decide_eq_true rfl]
      rfl
    · rw [decide_eq_false e, Bool.xor_false]
      by_cases q : i < k
      · rw [if_pos q, if_pos (by omega)]; omega
      · rw [if_neg q, if_neg (by omega)]; simp only [Nat.add_zero]
theorem bc_64 : ∀ a, a < 64 → ∀ b, b < 64 → bcI (nI (64 * a + b)) = nI (cn (64 * a + b) 12) := by decide +kernel
theorem on_64 : ∀ a, a < 64 → ∀ b, b < 64 → onI (nI (64 * a + b)) = nI (cn (64 * a + b) 12) := by decide +kernel
theorem bc_on {t : Nat} (h : t < 4096) : bcI (nI t) = nI (cn t 12) := by
  have := bc_64 (t / 64) (by omega) (t % 64) (by omega)
  rwa [show 64 * (t / 64) + t % 64 = t by omega] at this
theorem on_on {t : Nat} (h : t < 4096) : onI (nI t) = nI (cn t 12) := by
  have := on_64 (t / 64) (by omega) (t % 64) (by omega)
  rwa [show 64 * (t / 64) + t % 64 = t by omega] at this
theorem wg_N {A D t : Nat} (hA : A + D < 2 ^ 31) (ht : t < 4096) : wgF (nI A) (nI (A + D)) (nI t) = lN (D * 65536 + cn t 12 * 4096 + t) := by
  have hc := cn_le t 12
  unfold wgF
  rw [nI_sub (by omega), show A + D - A = D by omega, bc_on ht, nI_l (by omega), nI_l (by omega), nI_l (by omega)]
  rw [show (Int32.toInt64 16 &&& 63) = ((nI 16).toInt64 &&& 63) from rfl, show (Int32.toInt64 12 &&& 63) = ((nI 12).toInt64 &&& 63) from rfl, wb_shl D (by decide), wb_shl (cn t 12) (by decide)]
  rw [g_or (k := 16) (p := 2 ^ 16) rfl (a := cn t 12 * 2 ^ 12) (by omega) (by omega)]
  rw [show D * 2 ^ 16 + cn t 12 * 2 ^ 12 = (D * 16 + cn t 12) * 2 ^ 12 by omega]
  rw [g_or (k := 12) (p := 2 ^ 12) rfl (a := t) (by omega) (by omega)]
theorem cmp_N {a b : Nat} (ha : a < 2 ^ 63) (hb : b < 2 ^ 63) : lg_cmp (lN a) (lN b) < 0 ↔ a < b := by
  unfold lg_cmp
  rcases Nat.lt_trichotomy a b with h | h | h
  · rw [if_neg (fun q => by have := (pk_lLT hb ha).mp q; omega), if_neg (fun q => by have := (pk_lEQ ha hb).mp q; omega)]
    exact ⟨fun _ => h, fun _ => by decide⟩
  · subst h
    rw [if_neg (fun q => by have := (pk_lLT hb ha).mp q; omega), if_pos rfl]
    exact ⟨fun q => absurd q (by decide), fun q => by omega⟩
  · rw [if_pos ((pk_lLT hb ha).mpr h)]
    exact ⟨fun q => absurd q (by decide), fun q => by omega⟩
theorem lwO_N {D c t : Nat} (hD : D < 2 ^ 30) (hc : c ≤ 12) (ht : t < 4096) : lwO (lN (D * 65536 + c * 4096 + t)) = nI D := by
  unfold lwO
  rw [pf_shr (d := 16) (by decide) (by omega), show (D * 65536 + c * 4096 + t) / 2 ^ 16 = D by omega]
  exact lN_i D
theorem lwT_N {D c t : Nat} (hD : D < 2 ^ 30) (hc : c ≤ 12) (ht : t < 4096) : lwT (lN (D * 65536 + c * 4096 + t)) = nI t := by
  unfold lwT
  rw [show (4095 : Int64) = lN (4096 - 1) from rfl, g_mask (s := 12) rfl (by decide) (by omega), show (D * 65536 + c * 4096 + t) % 4096 = t by omega]
  exact lN_i t
/-! one bit of a set -/
theorem bv_1 (x : BitVec 32) : (x &&& 1#32 = 1#32) ↔ x.getLsbD 0 = true := by
  constructor
  · intro h
    have := congrArg (fun y => BitVec.getLsbD y 0) h
    simpa using this
  · intro h
    apply BitVec.eq_of_getLsbD_eq
    intro i hi
    rw [BitVec.getLsbD_and]
    by_cases e : i = 0
    · subst e; rw [h]; rfl
    · have : (1#32).getLsbD i = false := by
        show (1#32).toNat.testBit i = false
        rw [show (1#32).toNat = 2 ^ 0 from rfl, Nat.testBit_two_pow, decide_eq_false (Ne.symm e)]
      rw [this, Bool.and_false]
theorem sh_j : ∀ j, j < 4 → ((nI j &&& 31).toBitVec.smod 32).toNat = j := by decide +kernel
theorem hB_get (s : Int32) {j : Nat} (hj : j < 4) : hB s (nI j) = s.toBitVec.getLsbD j := by
  have e : ((s >>> (nI j &&& 31)) &&& 1 = 1) ↔ s.toBitVec.getLsbD j = true := by
    rw [← Int32.toBitVec_inj, Int32.toBitVec_and, Int32.toBitVec_shiftRight]
    show (_ &&& 1#32 = 1#32) ↔ _
    rw [bv_1, BitVec.sshiftRight_eq', sh_j j hj, BitVec.getLsbD_sshiftRight, Nat.add_zero]
    simp
    omega
  unfold hB
  cases h : s.toBitVec.getLsbD j with
  | true => exact decide_eq_true (e.mpr h)
  | false => exact decide_eq_false (fun q => by rw [e.mp q] at h; cases h)
theorem one_get : ∀ m, m < 4 → ∀ j, j < 4 → ((1 : Int32) <<< (nI m &&& 31)).toBitVec.getLsbD j = decide (j = m) := by decide +kernel
theorem hB_or (o : Int32) {m j : Nat} (hm : m < 4) (hj : j < 4) : hB (o ||| ((1 : Int32) <<< (nI m &&& 31))) (nI j) = (hB o (nI j) || decide (j = m)) := by
  rw [hB_get _ hj, hB_get _ hj, Int32.toBitVec_or, BitVec.getLsbD_or, one_get m hm j hj]
theorem bU_ext {f g : Nat → Bool} : ∀ k, (∀ j, j < k → f j = g j) → bU f k = bU g k
  | 0, _ => rfl
  | k + 1, h => by
    show (bif f k then bU f k ||| _ else bU f k) = (bif g k then bU g k ||| _ else bU g k)
    rw [h k (Nat.lt_succ_self k), bU_ext k (fun j hj => h j (Nat.lt_succ_of_lt hj))]
theorem play_spk {h b : Nat → Int32} {s s' : Int32} (e : ∀ j, j < 4 → spk b s j = spk b s' j) : play h b s = play h b s' := by
  have hw : who b s = who b s' := bU_ext 4 e
  unfold play
  rw [hw, e 0 (by decide), e 1 (by decide), e 2 (by decide), e 3 (by decide)]
theorem play_cant {h b : Nat → Int32} {o : Int32} {m : Nat} (hm : m < 4) (hc : canB (b (9 + m)) (b (17 + m)) = false) : play h b (o ||| ((1 : Int32) <<< (nI m &&& 31))) = play h b o := by
  refine play_spk fun j hj => ?_
  unfold spk
  rw [hB_or o hm hj]
  by_cases e : j = m
  · subst e; rw [hc, Bool.and_false, Bool.and_false]
  · rw [decide_eq_false e, Bool.or_false]
