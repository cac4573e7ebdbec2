/-! the model's beat is the class's, on a book that keeps the house's bounds -/
def Seat (n j br t a e : Int32) : Prop := (n ≤ j → br = 0 ∧ a = 0) ∧ (¬ n ≤ j → e + 1 ≤ t)
def Seats (h b : Nat → Int32) : Prop := Seat (h 0) 0 (h 2) (h 6) (b 9) (b 13) ∧ Seat (h 0) 1 (h 3) (h 7) (b 10) (b 14) ∧ Seat (h 0) 2 (h 4) (h 8) (b 11) (b 15) ∧ Seat (h 0) 3 (h 5) (h 9) (b 12) (b 16)
theorem canB_0 (w : Int32) : canB 0 w = false := by
  unfold canB
  rw [show decide ((0 : Int32) ≤ 0) = true from by decide]
  rfl
theorem seat_f {n j br t a e w : Int32} (q : Bool) (h : Seat n j br t a e) : (!decide (n ≤ j) && (q && canB a w)) = (q && canB a w) := by
  by_cases hn : n ≤ j
  · obtain ⟨-, ha⟩ := h.1 hn
    rw [ha, canB_0]
    cases q <;> simp
  · simp [hn]
theorem mf_eq {h b : Nat → Int32} (H : Seats h b) (s : Int32) : mf h b s 0 = spk b s 0 ∧ mf h b s 1 = spk b s 1 ∧ mf h b s 2 = spk b s 2 ∧ mf h b s 3 = spk b s 3 := by
  obtain ⟨h0, h1, h2, h3⟩ := H
  refine ⟨?_, ?_, ?_, ?_⟩
  · rw [mf_0, spk_0]; exact seat_f _ h0
  · rw [mf_1, spk_1]; exact seat_f _ h1
  · rw [mf_2, spk_2]; exact seat_f _ h2
  · rw [mf_3, spk_3]; exact seat_f _ h3
theorem mwho_eq {h b : Nat → Int32} (H : Seats h b) (s : Int32) : mwho h b s = who b s := by
  obtain ⟨e0, e1, e2, e3⟩ := mf_eq H s
  show bU (mf h b s) 4 = bU (spk b s) 4
  simp only [bU_4, bU_3, bU_2, bU_1, e0, e1, e2, e3]
theorem seat_no {n j br t a e w : Int32} {q : Bool} (h : Seat n j br t a e) (hn : n ≤ j) : (q && canB a w) = false := by
  obtain ⟨-, ha⟩ := h.1 hn
  rw [ha, canB_0]
  cases q <;> rfl
theorem mrA_eq {b t a e : Int32} (h : e + 1 ≤ t) : mrA b t a e = trA b t a e := by
  unfold mrA trA
  by_cases h1 : b ≤ a
  · rw [if_pos h1, if_pos h1]
  · rw [if_neg h1, if_neg h1]
    by_cases h2 : e + 1 = t
    · rw [if_pos h2, if_pos (by rw [h2]; exact Int32.le_refl t)]
    · rw [if_neg h2, if_neg (fun q => h2 (Int32.le_antisymm h q))]
theorem mrE_eq {b t a e : Int32} (h : e + 1 ≤ t) : mrE b t a e = trR b t a e := by
  unfold mrE trR
  by_cases h1 : b ≤ a
  · rw [if_pos h1, if_pos h1]
  · rw [if_neg h1, if_neg h1]
    by_cases h2 : e + 1 = t
    · rw [if_pos h2, if_pos (by rw [h2]; exact Int32.le_refl t)]
    · rw [if_neg h2, if_neg (fun q => h2 (Int32.le_antisymm h q))]
theorem mnA_eq {n j br t a e w : Int32} {q : Bool} (h : Seat n j br t a e) : mnA n j (q && canB a w) br t a e = nA (q && canB a w) br t a e := by
  unfold mnA nA
  by_cases hn : n ≤ j
  · rw [if_pos hn, seat_no h hn]
    obtain ⟨hb, ha⟩ := h.1 hn
    show a = trA br t a e
    unfold trA
    rw [if_pos (by rw [hb, ha]; decide)]
  · rw [if_neg hn, mrA_eq (h.2 hn)]
theorem mnE_eq {n j br t a e w : Int32} {q : Bool} (h : Seat n j br t a e) : mnE n j (q && canB a w) br t a e = nE (q && canB a w) br t a e := by
  unfold mnE nE
  by_cases hn : n ≤ j
  · rw [if_pos hn, seat_no h hn]
    obtain ⟨hb, ha⟩ := h.1 hn
    show e = trR br t a e
    unfold trR
    rw [if_pos (by rw [hb, ha]; decide)]
  · rw [if_neg hn, mrE_eq (h.2 hn)]
theorem mnW_eq {n j br t a e w v : Int32} {q : Bool} (h : Seat n j br t a e) : mnW n j (q && canB a w) v = nW (q && canB a w) v := by
  unfold mnW nW
  by_cases hn : n ≤ j
  · rw [if_pos hn, seat_no h hn]
    rfl
  · rw [if_neg hn]
theorem msO_eq {k st c n j x : Int32} (hk : k = 0 ∨ k = 1 ∨ k = 2) (hj : 0 ≤ j) : msO k st c n j x = psO k st c n j x := by
  have a01 : ¬ (0 : Int32) = 1 := by decide
  have a02 : ¬ (0 : Int32) = 2 := by decide
  have a10 : ¬ (1 : Int32) = 0 := by decide
  have a12 : ¬ (1 : Int32) = 2 := by decide
  have a20 : ¬ (2 : Int32) = 0 := by decide
  have a21 : ¬ (2 : Int32) = 1 := by decide
  unfold msO psO ptO
  rcases hk with rfl | rfl | rfl
  · simp only [a01, a02, ↓reduceIte]
  · simp only [a10, a12, ↓reduceIte]
  · simp only [a20, a21, ↓reduceIte]
    by_cases hn : n ≤ 0
    · simp only [hn, Int32.le_trans hn hj, ↓reduceIte]
    · simp only [hn, ↓reduceIte]
theorem mU_eq (k u : Int32) : u + (if k = 1 then 1 else 0) = psU k u := by
  unfold psU
  by_cases h : k = 1
  · rw [if_pos h, if_pos h]
  · rw [if_neg h, if_neg h, Int32.add_zero]
theorem mkP_0 {n s c u o x : Int32} (hn : n ≤ 0 → hB s 0 = false) : mkP n s c u o 0 x = pkO s false 0 c u o x := by
  unfold mkP pkO mkO lst
  by_cases q : n ≤ 0
  · rw [hn q]
    cases hB s 0 <;> cases hB s 1 <;> cases hB s 2 <;> cases hB s 3 <;> simp [q]
  · cases hB s 0 <;> cases hB s 1 <;> cases hB s 2 <;> cases hB s 3 <;> simp [q]
theorem mkP_1 {n s c u o x : Int32} (hn : n ≤ 1 → hB s 1 = false) : mkP n s c u o 1 x = pkO s (hB s 0) 1 c u o x := by
  unfold mkP pkO mkO lst
  by_cases q : n ≤ 1
  · rw [hn q]
    cases hB s 0 <;> cases hB s 1 <;> cases hB s 2 <;> cases hB s 3 <;> simp [q]
  · cases hB s 0 <;> cases hB s 1 <;> cases hB s 2 <;> cases hB s 3 <;> simp [q]
theorem mkP_2 {n s c u o x : Int32} (hn : n ≤ 2 → hB s 2 = false) : mkP n s c u o 2 x = pkO s (hB s 0 || hB s 1) 2 c u o x := by
  unfold mkP pkO mkO lst
  by_cases q : n ≤ 2
  · rw [hn q]
    cases hB s 0 <;> cases hB s 1 <;> cases hB s 2 <;> cases hB s 3 <;> simp [q]
  · cases hB s 0 <;> cases hB s 1 <;> cases hB s 2 <;> cases hB s 3 <;> simp [q]
theorem mkP_3 {n s c u o x : Int32} (hn : n ≤ 3 → hB s 3 = false) : mkP n s c u o 3 x = pkO s (hB s 0 || hB s 1 || hB s 2) 3 c u o x := by
  unfold mkP pkO mkO lst
  by_cases q : n ≤ 3
  · rw [hn q]
    cases hB s 0 <;> cases hB s 1 <;> cases hB s 2 <;> cases hB s 3 <;> simp [q]
  · cases hB s 0 <;> cases hB s 1 <;> cases hB s 2 <;> cases hB s 3 <;> simp [q]
theorem mplay_eq {h b : Nat → Int32} (H : Seats h b) (hk : b 0 = 0 ∨ b 0 = 1 ∨ b 0 = 2) (s : Int32) : ∀ k, k < 25 → mplay h b s k = play h b s k := by
  obtain ⟨e0, e1, e2, e3⟩ := mf_eq H s
  obtain ⟨h0, h1, h2, h3⟩ := id H
  have ew := mwho_eq H s
  intro k hk25
  match k, hk25 with
  | 0, _ => exact rfl
  | 1, _ => exact rfl
  | 2, _ => exact rfl
  | 3, _ => exact rfl
  | 4, _ =>
    show (if mwho h b s = 0 then b 4 else b 4 + 1) = if who b s = 0 then b 4 else b 4 + 1
    rw [ew]
  | 5, _ => exact ew
  | 6, _ =>
    show (if mwho h b s = 0 then b 6 + 1 else 0) = if who b s = 0 then b 6 + 1 else 0
    rw [ew]
  | 7, _ =>
    show (if mwho h b s = 0 then b 7 else lst (mwho h b s)) = if who b s = 0 then b 7 else lst (who b s)
    rw [ew]
  | 8, _ =>
    show (if mwho h b s = 0 then b 8 + (if b 0 = 1 then 1 else 0) else 0) = if who b s = 0 then psU (b 0) (b 8) else 0
    rw [ew, mU_eq]
  | 9, _ =>
    show mnA (h 0) 0 (mf h b s 0) (h 2) (h 6) (b 9) (b 13) = nA (spk b s 0) (h 2) (h 6) (b 9) (b 13)
    rw [e0, spk_0]
    exact mnA_eq h0
  | 10, _ =>
    show mnA (h 0) 1 (mf h b s 1) (h 3) (h 7) (b 10) (b 14) = nA (spk b s 1) (h 3) (h 7) (b 10) (b 14)
    rw [e1, spk_1]
    exact mnA_eq h1
  | 11, _ =>
    show mnA (h 0) 2 (mf h b s 2) (h 4) (h 8) (b 11) (b 15) = nA (spk b s 2) (h 4) (h 8) (b 11) (b 15)
    rw [e2, spk_2]
    exact mnA_eq h2
  | 12, _ =>
    show mnA (h 0) 3 (mf h b s 3) (h 5) (h 9) (b 12) (b 16) = nA (spk b s 3) (h 5) (h 9) (b 12) (b 16)
    rw [e3, spk_3]
    exact mnA_eq h3
  | 13, _ =>
    show mnE (h 0) 0 (mf h b s 0) (h 2) (h 6) (b 9) (b 13) = nE (spk b s 0) (h 2) (h 6) (b 9) (b 13)
    rw [e0, spk_0]
    exact mnE_eq h0
  | 14, _ =>
    show mnE (h 0) 1 (mf h b s 1) (h 3) (h 7) (b 10) (b 14) = nE (spk b s 1) (h 3) (h 7) (b 10) (b 14)
    rw [e1, spk_1]
    exact mnE_eq h1
  | 15, _ =>
    show mnE (h 0) 2 (mf h b s 2) (h 4) (h 8) (b 11) (b 15) = nE (spk b s 2) (h 4) (h 8) (b 11) (b 15)
    rw [e2, spk_2]
    exact mnE_eq h2
  | 16, _ =>
    show mnE (h 0) 3 (mf h b s 3) (h 5) (h 9) (b 12) (b 16) = nE (spk b s 3) (h 5) (h 9) (b 12) (b 16)
    rw [e3, spk_3]
    exact mnE_eq h3
  | 17, _ =>
    show mnW (h 0) 0 (mf h b s 0) (b 17) = nW (spk b s 0) (b 17)
    rw [e0, spk_0]
    exact mnW_eq h0
  | 18, _ =>
    show mnW (h 0) 1 (mf h b s 1) (b 18) = nW (spk b s 1) (b 18)
    rw [e1, spk_1]
    exact mnW_eq h1
  | 19, _ =>
    show mnW (h 0) 2 (mf h b s 2) (b 19) = nW (spk b s 2) (b 19)
    rw [e2, spk_2]
    exact mnW_eq h2
  | 20, _ =>
    show mnW (h 0) 3 (mf h b s 3) (b 20) = nW (spk b s 3) (b 20)
    rw [e3, spk_3]
    exact mnW_eq h3
  | 21, _ =>
    show (if mwho h b s = 0 then msO (b 0) (b 7) (b 1) (h 0) 0 (b 21) else mkP (h 0) (mwho h b s) (b 1) (b 8) (b 2) 0 (b 21)) = if who b s = 0 then psO (b 0) (b 7) (b 1) (h 0) 0 (b 21) else pkO (who b s) false 0 (b 1) (b 8) (b 2) (b 21)
    rw [ew, msO_eq hk (by decide), mkP_0 (fun q => by show hB (bU (spk b s) 4) 0 = false; rw [hB_bU0, spk_0]; exact seat_no h0 q)]
  | 22, _ =>
    show (if mwho h b s = 0 then msO (b 0) (b 7) (b 1) (h 0) 1 (b 22) else mkP (h 0) (mwho h b s) (b 1) (b 8) (b 2) 1 (b 22)) = if who b s = 0 then psO (b 0) (b 7) (b 1) (h 0) 1 (b 22) else pkO (who b s) (hB (who b s) 0) 1 (b 1) (b 8) (b 2) (b 22)
    rw [ew, msO_eq hk (by decide), mkP_1 (fun q => by show hB (bU (spk b s) 4) 1 = false; rw [hB_bU1, spk_1]; exact seat_no h1 q)]
  | 23, _ =>
    show (if mwho h b s = 0 then msO (b 0) (b 7) (b 1) (h 0) 2 (b 23) else mkP (h 0) (mwho h b s) (b 1) (b 8) (b 2) 2 (b 23)) = if who b s = 0 then psO (b 0) (b 7) (b 1) (h 0) 2 (b 23) else pkO (who b s) (hB (who b s) 0 || hB (who b s) 1) 2 (b 1) (b 8) (b 2) (b 23)
    rw [ew, msO_eq hk (by decide), mkP_2 (fun q => by show hB (bU (spk b s) 4) 2 = false; rw [hB_bU2, spk_2]; exact seat_no h2 q)]
  | 24, _ =>
    show (if mwho h b s = 0 then msO (b 0) (b 7) (b 1) (h 0) 3 (b 24) else mkP (h 0) (mwho h b s) (b 1) (b 8) (b 2) 3 (b 24)) = if who b s = 0 then psO (b 0) (b 7) (b 1) (h 0) 3 (b 24) else pkO (who b s) (hB (who b s) 0 || hB (who b s) 1 || hB (who b s) 2) 3 (b 1) (b 8) (b 2) (b 24)
    rw [ew, msO_eq hk (by decide), mkP_3 (fun q => by show hB (bU (spk b s) 4) 3 = false; rw [hB_bU3, spk_3]; exact seat_no h3 q)]
  | k + 25, q => exact absurd q (by omega)
