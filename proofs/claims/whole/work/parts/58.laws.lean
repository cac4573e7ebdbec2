/-! the books that FOLLOW and LAWS leave, and what LAWS tells -/
theorem Eq25_mk {b c : Nat → Int32} (e0 : b 0 = c 0) (e : ∀ k, 1 ≤ k → k < 25 → b k = c k) : Eq25 b c := fun k hk => if z : k = 0 then by rw [z]; exact e0 else e k (Nat.pos_of_ne_zero z) hk
theorem mtk_25 (b c : Nat → Int32) : Eq25 (mtk b c) c := by
  intro i hi
  match i, hi with
  | 0, _ => exact rfl
  | 1, _ => exact rfl
  | 2, _ => exact rfl
  | 3, _ => exact rfl
  | 4, _ => exact rfl
  | 5, _ => exact rfl
  | 6, _ => exact rfl
  | 7, _ => exact rfl
  | 8, _ => exact rfl
  | 9, _ => exact rfl
  | 10, _ => exact rfl
  | 11, _ => exact rfl
  | 12, _ => exact rfl
  | 13, _ => exact rfl
  | 14, _ => exact rfl
  | 15, _ => exact rfl
  | 16, _ => exact rfl
  | 17, _ => exact rfl
  | 18, _ => exact rfl
  | 19, _ => exact rfl
  | 20, _ => exact rfl
  | 21, _ => exact rfl
  | 22, _ => exact rfl
  | 23, _ => exact rfl
  | 24, _ => exact rfl
  | i + 25, hi => exact absurd hi (by omega)
theorem stc_o (b : Nat → Int32) (k : Int32) {i : Nat} (h1 : 1 ≤ i) (h2 : i < 25) : stc b k i = b i := by
  match i, h1, h2 with
  | 0, h1, _ => exact absurd h1 (by decide)
  | 1, _, _ => exact rfl
  | 2, _, _ => exact rfl
  | 3, _, _ => exact rfl
  | 4, _, _ => exact rfl
  | 5, _, _ => exact rfl
  | 6, _, _ => exact rfl
  | 7, _, _ => exact rfl
  | 8, _, _ => exact rfl
  | 9, _, _ => exact rfl
  | 10, _, _ => exact rfl
  | 11, _, _ => exact rfl
  | 12, _, _ => exact rfl
  | 13, _, _ => exact rfl
  | 14, _, _ => exact rfl
  | 15, _, _ => exact rfl
  | 16, _, _ => exact rfl
  | 17, _, _ => exact rfl
  | 18, _, _ => exact rfl
  | 19, _, _ => exact rfl
  | 20, _, _ => exact rfl
  | 21, _, _ => exact rfl
  | 22, _, _ => exact rfl
  | 23, _, _ => exact rfl
  | 24, _, _ => exact rfl
  | i + 25, _, h2 => exact absurd h2 (by omega)
theorem stk_o (b : Nat → Int32) (k : Int32) {i : Nat} (h1 : 1 ≤ i) (h2 : i < 25) : stk b k i = b i := by
  match i, h1, h2 with
  | 0, h1, _ => exact absurd h1 (by decide)
  | 1, _, _ => exact rfl
  | 2, _, _ => exact rfl
  | 3, _, _ => exact rfl
  | 4, _, _ => exact rfl
  | 5, _, _ => exact rfl
  | 6, _, _ => exact rfl
  | 7, _, _ => exact rfl
  | 8, _, _ => exact rfl
  | 9, _, _ => exact rfl
  | 10, _, _ => exact rfl
  | 11, _, _ => exact rfl
  | 12, _, _ => exact rfl
  | 13, _, _ => exact rfl
  | 14, _, _ => exact rfl
  | 15, _, _ => exact rfl
  | 16, _, _ => exact rfl
  | 17, _, _ => exact rfl
  | 18, _, _ => exact rfl
  | 19, _, _ => exact rfl
  | 20, _, _ => exact rfl
  | 21, _, _ => exact rfl
  | 22, _, _ => exact rfl
  | 23, _, _ => exact rfl
  | 24, _, _ => exact rfl
  | i + 25, _, h2 => exact absurd h2 (by omega)
theorem stk_stc {b0 b : Nat → Int32} (e0 : Eq25 b0 b) (k : Int32) : Eq25 (stk (mcp b0) k) (stc b k) :=
  Eq25_mk rfl (fun i h1 h2 => by rw [stk_o _ _ h1 h2, stc_o _ _ h1 h2, Eq25_mcp b0 i h2, e0 i h2])
theorem inB_kind {k : Int32} (h : inB k 0 2 = true) : k = 0 ∨ k = 1 ∨ k = 2 := by
  obtain ⟨j, -, h2, e⟩ := inB_ex (l := 0) (u := 2) (by decide) (by decide) h
  match j, h2 with
  | 0, _ => exact Or.inl e
  | 1, _ => exact Or.inr (Or.inl e)
  | 2, _ => exact Or.inr (Or.inr e)
  | j + 3, h2 => exact absurd h2 (by omega)
theorem Bok_stc {h b : Nat → Int32} (H : Bok h b) {k : Int32} (hk : inB k 0 2 = true) : Bok h (stc b k) := ⟨H.1, inB_kind hk⟩
/-- LAWS -/
theorem laws_eq {h b b0 : Nat → Int32} {ps : List Int32} (R : Rok h) (hB : Bok h b) (e0 : Eq25 b0 b) (W : Ow (h 0) b) {k : Int32} (hk : inB k 0 2 = true) (n : Nat) :
    lwS (h 0) (mrB h ps (stk (mcp b0) k) n 21 - b0 21) (mrB h ps (stk (mcp b0) k) n 22 - b0 22) (mrB h ps (stk (mcp b0) k) n 23 - b0 23) (mrB h ps (stk (mcp b0) k) n 24 - b0 24) = oT (plB h ps (stc b k) n) - oT b := by
  have E := (runs_eq (ps := ps) R (Bok_stc hB hk) (stk_stc e0 k) rfl n).1
  rw [E 21 (by decide), E 22 (by decide), E 23 (by decide), E 24 (by decide), e0 21 (by decide), e0 22 (by decide), e0 23 (by decide), e0 24 (by decide)]
  exact lw_oT W (Ow_plB (Ow_stc W k) ps n)
