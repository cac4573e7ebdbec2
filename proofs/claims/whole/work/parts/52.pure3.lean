/-! plans and draws: the model's books are the class's on the places that are kept -/
theorem play_ext {h b c : Nat → Int32} (e : Eq25 b c) (s : Int32) : play h b s = play h c s := by
  unfold play
  rw [who_eq e s]
  simp only [spk_0, spk_1, spk_2, spk_3, e 0 (by decide), e 1 (by decide), e 2 (by decide), e 3 (by decide), e 4 (by decide), e 5 (by decide), e 6 (by decide), e 7 (by decide), e 8 (by decide), e 9 (by decide), e 10 (by decide), e 11 (by decide), e 12 (by decide), e 13 (by decide), e 14 (by decide), e 15 (by decide), e 16 (by decide), e 17 (by decide), e 18 (by decide), e 19 (by decide), e 20 (by decide), e 21 (by decide), e 22 (by decide), e 23 (by decide), e 24 (by decide)]
theorem bU_16 (f : Nat → Bool) : ∃ j, j < 16 ∧ bU f 4 = nI j := by
  refine ⟨(bif f 0 then 1 else 0) + (bif f 1 then 2 else 0) + (bif f 2 then 4 else 0) + (bif f 3 then 8 else 0), ?_, ?_⟩
  · cases f 0 <;> cases f 1 <;> cases f 2 <;> cases f 3 <;> decide
  · simp only [bU_4, bU_3, bU_2, bU_1]
    cases f 0 <;> cases f 1 <;> cases f 2 <;> cases f 3 <;> decide
theorem ov_16 : ∀ j, j < 16 → ¬ j = 0 → (decide (nI j = (1 : Int32) <<< (lst (nI j) &&& 31)) = decide (bcI (nI j) ≤ 1)) := by decide +kernel
theorem who_16 (b : Nat → Int32) (s : Int32) : ∃ j, j < 16 ∧ who b s = nI j := bU_16 _
theorem ov_eq (b : Nat → Int32) (s x : Int32) : (if who b s = 0 then x else x + (if who b s = ((1 : Int32) <<< (lst (who b s) &&& 31)) then 0 else 1)) = if bcI (who b s) ≤ 1 then x else x + 1 := by
  obtain ⟨j, hj, ej⟩ := who_16 b s
  rw [ej]
  by_cases h0 : j = 0
  · subst h0
    rw [if_pos (show nI 0 = 0 from rfl), if_pos (show bcI (nI 0) ≤ 1 by decide)]
  · rw [if_neg (n_eq0 (by omega) (by omega))]
    have := decide_eq_decide.mp (ov_16 j hj h0)
    by_cases h1 : bcI (nI j) ≤ 1
    · rw [if_pos (this.mpr h1), if_pos h1, Int32.add_zero]
    · rw [if_neg (fun z => h1 (this.mp z)), if_neg h1]
theorem Eq25_mcp (b : Nat → Int32) : Eq25 (mcp b) b := by
  intro k hk
  match k, hk with
  | 0, _ => exact rfl
  | 1, _ => exact rfl
  | 2, _ => exact rfl
  | 3, _ => exact rfl
  | 4, _ => exact rfl
  | 5, _ => exact rfl
  | 6, _ => exact rfl
  | 7, _ => exact rfl
  | 8, _ => exact rfl
  | 9, _ => exact rfl
  | 10, _ => exact rfl
  | 11, _ => exact rfl
  | 12, _ => exact rfl
  | 13, _ => exact rfl
  | 14, _ => exact rfl
  | 15, _ => exact rfl
  | 16, _ => exact rfl
  | 17, _ => exact rfl
  | 18, _ => exact rfl
  | 19, _ => exact rfl
  | 20, _ => exact rfl
  | 21, _ => exact rfl
  | 22, _ => exact rfl
  | 23, _ => exact rfl
  | 24, _ => exact rfl
  | k + 25, hk => exact absurd hk (by omega)
theorem Eq25_sym {b c : Nat → Int32} (e : Eq25 b c) : Eq25 c b := fun k hk => (e k hk).symm
theorem mplay_ext {h b c : Nat → Int32} (H : Bok h c) (e : Eq25 b c) (s : Int32) : Eq25 (mplay h b s) (play h c s) ∧ mwho h b s = who c s := by
  have Hb := Bok_eq (Eq25_sym e) H
  refine ⟨fun k hk => ?_, ?_⟩
  · rw [mplay_eq Hb.1 Hb.2 s k hk, play_ext e s]
  · rw [mwho_eq Hb.1 s, who_eq e s]
theorem mst_25 {h p : Nat → Int32} {g : Int32} : Eq25 (mst h p g) p := by
  intro k hk
  match k, hk with
  | 0, _ => exact rfl
  | 1, _ => exact rfl
  | 2, _ => exact rfl
  | 3, _ => exact rfl
  | 4, _ => exact rfl
  | 5, _ => exact rfl
  | 6, _ => exact rfl
  | 7, _ => exact rfl
  | 8, _ => exact rfl
  | 9, _ => exact rfl
  | 10, _ => exact rfl
  | 11, _ => exact rfl
  | 12, _ => exact rfl
  | 13, _ => exact rfl
  | 14, _ => exact rfl
  | 15, _ => exact rfl
  | 16, _ => exact rfl
  | 17, _ => exact rfl
  | 18, _ => exact rfl
  | 19, _ => exact rfl
  | 20, _ => exact rfl
  | 21, _ => exact rfl
  | 22, _ => exact rfl
  | 23, _ => exact rfl
  | 24, _ => exact rfl
  | k + 25, hk => exact absurd hk (by omega)
theorem runs_eq {h b b0 : Nat → Int32} {ps : List Int32} (R : Rok h) (hB : Bok h b) (e0 : Eq25 b0 b) (hg : b0 27 = -1) : ∀ i, Eq25 (mrB h ps b0 i) (plB h ps b i) ∧ mrB h ps b0 i 25 = b0 25 + plS h ps b i ∧ mrB h ps b0 i 26 = b0 26 + plO h ps b i ∧ mrB h ps b0 i 27 = plG h ps b i ∧ plB h ps b i 4 = b 4 + plD h ps b i ∧ Bok h (plB h ps b i) := by
  intro i
  induction i with
  | zero => exact ⟨e0, (Int32.add_zero _).symm, (Int32.add_zero _).symm, hg, (Int32.add_zero _).symm, hB⟩
  | succ i ih =>
    obtain ⟨i1, i2, i3, i4, i5, i6⟩ := ih
    obtain ⟨k1, k2⟩ := mplay_ext i6 i1 (gi ps i)
    have hw : plW h ps b i = who (plB h ps b i) (gi ps i) := rfl
    rw [mrB_s]
    refine ⟨fun k hk => (mst_25 k hk).trans (k1 k hk), ?_, ?_, ?_, ?_, Bok_play i6 R (gi ps i)⟩
    · show (if mwho h (mrB h ps b0 i) (gi ps i) = 0 then mrB h ps b0 i 25 + 1 else mrB h ps b0 i 25) = b0 25 + plS h ps b (i + 1)
      rw [k2, i2, plS_s, hw]
      by_cases e : who (plB h ps b i) (gi ps i) = 0
      · rw [if_pos e, if_pos e, Int32.add_assoc]
      · rw [if_neg e, if_neg e]
    · show (if mwho h (mrB h ps b0 i) (gi ps i) = 0 then mrB h ps b0 i 26 else mrB h ps b0 i 26 + (if mwho h (mrB h ps b0 i) (gi ps i) = ((1 : Int32) <<< (lst (mwho h (mrB h ps b0 i) (gi ps i)) &&& 31)) then 0 else 1)) = b0 26 + plO h ps b (i + 1)
      rw [k2, ov_eq, i3, plO_s, hw]
      by_cases e : bcI (who (plB h ps b i) (gi ps i)) ≤ 1
      · rw [if_pos e, if_pos e]
      · rw [if_neg e, if_neg e, Int32.add_assoc]
    · show (if mwho h (mrB h ps b0 i) (gi ps i) = 0 then (if mplay h (mrB h ps b0 i) (gi ps i) 27 = -1 then nI i else mplay h (mrB h ps b0 i) (gi ps i) 27) else mplay h (mrB h ps b0 i) (gi ps i) 27) = plG h ps b (i + 1)
      rw [show mplay h (mrB h ps b0 i) (gi ps i) 27 = mrB h ps b0 i 27 from rfl, k2, i4, plG_s, hw]
    · show play h (plB h ps b i) (gi ps i) 4 = b 4 + plD h ps b (i + 1)
      show (if who (plB h ps b i) (gi ps i) = 0 then plB h ps b i 4 else plB h ps b i 4 + 1) = _
      rw [i5, plD_s, hw]
      by_cases e : who (plB h ps b i) (gi ps i) = 0
      · rw [if_pos e, if_pos e]
      · rw [if_neg e, if_neg e, Int32.add_assoc]
/-- a run from a book: all that calls show of it -/
theorem run_eq {h b b0 : Nat → Int32} {ps : List Int32} (R : Rok h) (hB : Bok h b) (e0 : Eq25 b0 b) (i : Nat) : Eq25 (mrB h ps (mcp b0) i) (plB h ps b i) ∧ mrB h ps (mcp b0) i 25 = plS h ps b i ∧ mrB h ps (mcp b0) i 26 = plO h ps b i ∧ mrB h ps (mcp b0) i 27 = plG h ps b i ∧ mrB h ps (mcp b0) i 4 - b0 4 = plD h ps b i ∧ Bok h (plB h ps b i) := by
  have e : Eq25 (mcp b0) b := fun k hk => (Eq25_mcp b0 k hk).trans (e0 k hk)
  obtain ⟨i1, i2, i3, i4, i5, i6⟩ := runs_eq (ps := ps) R hB e rfl i
  refine ⟨i1, by rw [i2]; exact Int32.zero_add _, by rw [i3]; exact Int32.zero_add _, i4, ?_, i6⟩
  rw [i1 4 (by decide), i5, e0 4 (by decide), Int32.add_comm, Int32.add_sub_cancel]
theorem canB_z (w : Int32) {a : Int32} (ha : a = 0) : canB a w = false := by rw [ha]; exact canB_0 w
theorem ds_eq {h b c : Nat → Int32} {sd : Int32} (H : Bok h c) (e : Eq25 b c) : mdS h b sd 4 = dsS h c sd 4 := by
  obtain ⟨⟨h0, h1, h2, h3⟩, -⟩ := H
  have K0 : mdS h b sd 0 = dsS h c sd 0 := rfl
  have Z : ∀ {n j br t a e' w : Int32}, Seat n j br t a e' → n ≤ j → canB a w = false := fun hs hn => canB_z _ (hs.1 hn).2
  have K1 : mdS h b sd 1 = dsS h c sd 1 := by
    rw [mdS_1, dsS_1, K0, e 9 (by decide), e 17 (by decide), e 5 (by decide)]
    by_cases hn : h 0 ≤ 0
    · rw [if_pos hn, Z h0 hn]; rfl
    · rw [if_neg hn]
  have K2 : mdS h b sd 2 = dsS h c sd 2 := by
    rw [mdS_2, dsS_2, K1, e 10 (by decide), e 18 (by decide), e 5 (by decide)]
    by_cases hn : h 0 ≤ 1
    · rw [if_pos hn, Z h1 hn]; rfl
    · rw [if_neg hn]
  have K3 : mdS h b sd 3 = dsS h c sd 3 := by
    rw [mdS_3, dsS_3, K2, e 11 (by decide), e 19 (by decide), e 5 (by decide)]
    by_cases hn : h 0 ≤ 2
    · rw [if_pos hn, Z h2 hn]; rfl
    · rw [if_neg hn]
  have K4 : mdS h b sd 4 = dsS h c sd 4 := by
    rw [mdS_4, dsS_4, K3, e 12 (by decide), e 20 (by decide), e 5 (by decide)]
    by_cases hn : h 0 ≤ 3
    · rw [if_pos hn, Z h3 hn]; rfl
    · rw [if_neg hn]
  exact K4
theorem drift_eq {h b b0 : Nat → Int32} (R : Rok h) (hB : Bok h b) (e0 : Eq25 b0 b) (sd : Int32) : ∀ i, Eq25 (mdr h (mcp b0) sd i).1 (cdr h b sd i).1 ∧ (mdr h (mcp b0) sd i).2 = (cdr h b sd i).2 ∧ Bok h (cdr h b sd i).1 := by
  intro i
  induction i with
  | zero => exact ⟨fun k hk => (Eq25_mcp b0 k hk).trans (e0 k hk), rfl, hB⟩
  | succ i ih =>
    obtain ⟨i1, i2, i3⟩ := ih
    rw [mdr_s, cdr_s]
    dsimp only
    rw [i2, ds_eq i3 i1]
    exact ⟨(mplay_ext i3 i1 _).1, rfl, Bok_play i3 R _⟩
theorem Eq25_mtk (b c : Nat → Int32) : Eq25 (mtk b c) c := by
  intro k hk
  match k, hk with
  | 0, _ => exact rfl
  | 1, _ => exact rfl
  | 2, _ => exact rfl
  | 3, _ => exact rfl
  | 4, _ => exact rfl
  | 5, _ => exact rfl
  | 6, _ => exact rfl
  | 7, _ => exact rfl
  | 8, _ => exact rfl
  | 9, _ => exact rfl
  | 10, _ => exact rfl
  | 11, _ => exact rfl
  | 12, _ => exact rfl
  | 13, _ => exact rfl
  | 14, _ => exact rfl
  | 15, _ => exact rfl
  | 16, _ => exact rfl
  | 17, _ => exact rfl
  | 18, _ => exact rfl
  | 19, _ => exact rfl
  | 20, _ => exact rfl
  | 21, _ => exact rfl
  | 22, _ => exact rfl
  | 23, _ => exact rfl
  | 24, _ => exact rfl
  | k + 25, hk => exact absurd hk (by omega)
