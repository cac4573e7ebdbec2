/-! seats that nobody has: no words, no debt, and never the one that stopped; so LAWS tells the same on both sides -/
def Ow (n : Int32) (b : Nat → Int32) : Prop := (n ≤ 0 → b 17 = 0 ∧ b 21 = 0 ∧ ¬ b 7 = 0) ∧ (n ≤ 1 → b 18 = 0 ∧ b 22 = 0 ∧ ¬ b 7 = 1) ∧ (n ≤ 2 → b 19 = 0 ∧ b 23 = 0 ∧ ¬ b 7 = 2) ∧ (n ≤ 3 → b 20 = 0 ∧ b 24 = 0 ∧ ¬ b 7 = 3)
theorem hB_bU (f : Nat → Bool) : hB (bU f 4) 0 = f 0 ∧ hB (bU f 4) 1 = f 1 ∧ hB (bU f 4) 2 = f 2 ∧ hB (bU f 4) 3 = f 3 := by
  simp only [bU_4, bU_3, bU_2, bU_1]
  cases f 0 <;> cases f 1 <;> cases f 2 <;> cases f 3 <;> decide
theorem lst_no (f : Nat → Bool) : (f 0 = false → ¬ lst (bU f 4) = 0) ∧ (f 1 = false → ¬ lst (bU f 4) = 1) ∧ (f 2 = false → ¬ lst (bU f 4) = 2) ∧ (f 3 = false → ¬ lst (bU f 4) = 3) := by
  simp only [bU_4, bU_3, bU_2, bU_1]
  cases f 0 <;> cases f 1 <;> cases f 2 <;> cases f 3 <;> decide
theorem canB_w0 (a : Int32) : canB a 0 = false := by
  show (!decide (a ≤ 0) && !decide ((0 : Int32) ≤ 0)) = false
  rw [show decide ((0 : Int32) ≤ 0) = true from by decide]
  exact Bool.and_false _
theorem psO_no {k st c n j o : Int32} (hn : n ≤ j) (hs : ¬ st = j) : psO k st c n j o = o := by
  unfold psO ptO
  rw [if_pos hn, if_neg hs, ite_self, ite_self, ite_self]
theorem pkO_no {s j c u o x : Int32} {f : Bool} (h : hB s j = false) : pkO s f j c u o x = x := by
  unfold pkO
  rw [h]
  rfl
theorem Ow_play {h b : Nat → Int32} (H : Ow (h 0) b) (s : Int32) : Ow (h 0) (play h b s) := by
  obtain ⟨h0, h1, h2, h3⟩ := H
  obtain ⟨w0, w1, w2, w3⟩ := hB_bU (spk b s)
  obtain ⟨l0, l1, l2, l3⟩ := lst_no (spk b s)
  refine ⟨fun q => ?_, fun q => ?_, fun q => ?_, fun q => ?_⟩
  · obtain ⟨e1, e2, e3⟩ := h0 q
    have f0 : spk b s 0 = false := by rw [spk_0, e1, canB_w0]; exact Bool.and_false _
    refine ⟨?_, ?_, ?_⟩
    · show nW (spk b s 0) (b 17) = 0
      rw [f0, e1]; rfl
    · show (if who b s = 0 then psO (b 0) (b 7) (b 1) (h 0) 0 (b 21) else pkO (who b s) false 0 (b 1) (b 8) (b 2) (b 21)) = 0
      rw [psO_no q e3, pkO_no (show hB (who b s) 0 = false from w0.trans f0), ite_self, e2]
    · show ¬ (if who b s = 0 then b 7 else lst (who b s)) = 0
      by_cases z : who b s = 0
      · rw [if_pos z]; exact e3
      · rw [if_neg z]; exact l0 f0
  · obtain ⟨e1, e2, e3⟩ := h1 q
    have f0 : spk b s 1 = false := by rw [spk_1, e1, canB_w0]; exact Bool.and_false _
    refine ⟨?_, ?_, ?_⟩
    · show nW (spk b s 1) (b 18) = 0
      rw [f0, e1]; rfl
    · show (if who b s = 0 then psO (b 0) (b 7) (b 1) (h 0) 1 (b 22) else pkO (who b s) (hB (who b s) 0) 1 (b 1) (b 8) (b 2) (b 22)) = 0
      rw [psO_no q e3, pkO_no (show hB (who b s) 1 = false from w1.trans f0), ite_self, e2]
    · show ¬ (if who b s = 0 then b 7 else lst (who b s)) = 1
      by_cases z : who b s = 0
      · rw [if_pos z]; exact e3
      · rw [if_neg z]; exact l1 f0
  · obtain ⟨e1, e2, e3⟩ := h2 q
    have f0 : spk b s 2 = false := by rw [spk_2, e1, canB_w0]; exact Bool.and_false _
    refine ⟨?_, ?_, ?_⟩
    · show nW (spk b s 2) (b 19) = 0
      rw [f0, e1]; rfl
    · show (if who b s = 0 then psO (b 0) (b 7) (b 1) (h 0) 2 (b 23) else pkO (who b s) (hB (who b s) 0 || hB (who b s) 1) 2 (b 1) (b 8) (b 2) (b 23)) = 0
      rw [psO_no q e3, pkO_no (show hB (who b s) 2 = false from w2.trans f0), ite_self, e2]
    · show ¬ (if who b s = 0 then b 7 else lst (who b s)) = 2
      by_cases z : who b s = 0
      · rw [if_pos z]; exact e3
      · rw [if_neg z]; exact l2 f0
  · obtain ⟨e1, e2, e3⟩ := h3 q
    have f0 : spk b s 3 = false := by rw [spk_3, e1, canB_w0]; exact Bool.and_false _
    refine ⟨?_, ?_, ?_⟩
    · show nW (spk b s 3) (b 20) = 0
      rw [f0, e1]; rfl
    · show (if who b s = 0 then psO (b 0) (b 7) (b 1) (h 0) 3 (b 24) else pkO (who b s) (hB (who b s) 0 || hB (who b s) 1 || hB (who b s) 2) 3 (b 1) (b 8) (b 2) (b 24)) = 0
      rw [psO_no q e3, pkO_no (show hB (who b s) 3 = false from w3.trans f0), ite_self, e2]
    · show ¬ (if who b s = 0 then b 7 else lst (who b s)) = 3
      by_cases z : who b s = 0
      · rw [if_pos z]; exact e3
      · rw [if_neg z]; exact l3 f0
theorem Ow_plB {h b : Nat → Int32} (H : Ow (h 0) b) (ps : List Int32) : ∀ i, Ow (h 0) (plB h ps b i)
  | 0 => H
  | i + 1 => Ow_play (Ow_plB H ps i) _
theorem Ow_stc {n : Int32} {b : Nat → Int32} (H : Ow n b) (k : Int32) : Ow n (stc b k) := H
theorem Ow_opn {h : Nat → Int32} (H : Hx h) : Ow (h 0) (opn h) :=
  ⟨fun q => ⟨(Hx_seat0 H (m := 0) (by decide) q).2.2, rfl, (show ¬ (-1 : Int32) = 0 from by decide)⟩,
   fun q => ⟨(Hx_seat0 H (m := 1) (by decide) q).2.2, rfl, (show ¬ (-1 : Int32) = 1 from by decide)⟩,
   fun q => ⟨(Hx_seat0 H (m := 2) (by decide) q).2.2, rfl, (show ¬ (-1 : Int32) = 2 from by decide)⟩,
   fun q => ⟨(Hx_seat0 H (m := 3) (by decide) q).2.2, rfl, (show ¬ (-1 : Int32) = 3 from by decide)⟩⟩
theorem sub4 (a b c d p q u v : Int32) : 0 + (a - p) + (b - q) + (c - u) + (d - v) = (0 + a + b + c + d) - (0 + p + q + u + v) := by
  simp only [Int32.sub_eq_add_neg, Int32.neg_add, Int32.zero_add]
  ac_rfl
/-- LAWS: what the model sums over the members is what the class sums over all four seats -/
theorem lw_oT {n : Int32} {b c : Nat → Int32} (H : Ow n b) (K : Ow n c) : lwS n (c 21 - b 21) (c 22 - b 22) (c 23 - b 23) (c 24 - b 24) = oT c - oT b := by
  unfold oT
  rw [← sub4]
  unfold lwS
  have z : ∀ x : Int32, x + (0 - 0) = x := fun x => Int32.add_zero x
  by_cases q3 : n ≤ 3
  · rw [(H.2.2.2 q3).2.1, (K.2.2.2 q3).2.1, z]
    by_cases q2 : n ≤ 2
    · rw [(H.2.2.1 q2).2.1, (K.2.2.1 q2).2.1, z]
      by_cases q1 : n ≤ 1
      · rw [(H.2.1 q1).2.1, (K.2.1 q1).2.1, z]
        by_cases q0 : n ≤ 0
        · rw [(H.1 q0).2.1, (K.1 q0).2.1, if_pos q0]; rfl
        · rw [if_neg q0, if_pos q1]
      · rw [if_neg (fun q => q1 (le_lit q (by decide))), if_neg q1, if_pos q2]
    · rw [if_neg (fun q => q2 (le_lit q (by decide))), if_neg (fun q => q2 (le_lit q (by decide))), if_neg q2, if_pos q3]
  · rw [if_neg (fun q => q3 (le_lit q (by decide))), if_neg (fun q => q3 (le_lit q (by decide))), if_neg (fun q => q3 (le_lit q (by decide))), if_neg q3]
