/-! what the bounds of the house give -/
theorem inB_ex {x : Int32} {l u : Nat} (hl : l < 2 ^ 31) (hu : u < 2 ^ 31) (h : inB x (nI l) (nI u) = true) : ∃ j, l ≤ j ∧ j ≤ u ∧ x = nI j := by
  obtain ⟨h1, h2⟩ := Bool.and_eq_true_iff.mp h
  have g1 : ¬ x < nI l := by simpa using h1
  have g2 : ¬ nI u < x := by simpa using h2
  have e1 : (l : Int) ≤ x.toInt := by
    have := Int32.le_iff_toInt_le.mp (Int32.not_lt.mp g1)
    rw [nI_toInt hl] at this
    exact this
  have e2 : x.toInt ≤ (u : Int) := by
    have := Int32.le_iff_toInt_le.mp (Int32.not_lt.mp g2)
    rw [nI_toInt hu] at this
    exact this
  refine ⟨x.toInt.toNat, by omega, by omega, ?_⟩
  apply Int32.toInt_inj.mp
  rw [nI_toInt (by omega)]
  omega
theorem Hx_Hg {h : Nat → Int32} (H : Hx h) : ∃ (n : Nat) (B R : Nat → Nat), Hg h n B R := by
  obtain ⟨n, hn, h0, hm, -⟩ := H
  have b : ∀ m, ∃ b, m < 4 → h (2 + m) = nI b ∧ b ≤ 4 ∧ (m < n → 1 ≤ b) := by
    intro m
    by_cases h4 : m < 4
    · by_cases q : m < n
      · obtain ⟨j, a, c, e⟩ := inB_ex (l := 1) (u := 4) (by decide) (by decide) ((hm m h4).1 q).1
        exact ⟨j, fun _ => ⟨e, c, fun _ => a⟩⟩
      · exact ⟨0, fun _ => ⟨((hm m h4).2 (by omega)).1, by decide, fun z => absurd z q⟩⟩
    · exact ⟨0, fun z => absurd z h4⟩
  have r : ∀ m, ∃ b, m < 4 → h (6 + m) = nI b ∧ b ≤ 3 ∧ (m < n → 1 ≤ b) := by
    intro m
    by_cases h4 : m < 4
    · by_cases q : m < n
      · obtain ⟨j, a, c, e⟩ := inB_ex (l := 1) (u := 3) (by decide) (by decide) ((hm m h4).1 q).2.1
        exact ⟨j, fun _ => ⟨e, c, fun _ => a⟩⟩
      · exact ⟨0, fun _ => ⟨((hm m h4).2 (by omega)).2.1, by decide, fun z => absurd z q⟩⟩
    · exact ⟨0, fun z => absurd z h4⟩
  obtain ⟨B, hB⟩ := Classical.axiomOfChoice b
  obtain ⟨R, hR⟩ := Classical.axiomOfChoice r
  exact ⟨n, B, R, hn, h0, fun m h4 => ⟨(hB m h4).1, (hB m h4).2.1, (hR m h4).1, (hR m h4).2.1, fun q => ⟨(hR m h4).2.2 q, (hB m h4).2.2 q⟩⟩⟩
theorem Hg_Rok {h : Nat → Int32} {n : Nat} {B R : Nat → Nat} (H : Hg h n B R) : Rok h := by
  obtain ⟨h1, h2, h3⟩ := H
  have K : ∀ m, m < 4 → ¬ h 0 ≤ nI m → 1 ≤ h (6 + m) := by
    intro m hm q
    rw [h2] at q
    have hmn : m < n := by
      by_cases z : m < n
      · exact z
      · exact absurd (n_le (by omega) (by omega) (by omega)) q
    obtain ⟨-, -, a, b, c⟩ := h3 m hm
    rw [a]
    exact n_le (a := 1) (by decide) (by omega) (c hmn).1
  exact ⟨K 0 (by decide), K 1 (by decide), K 2 (by decide), K 3 (by decide)⟩
theorem Hx_seat0 {h : Nat → Int32} (H : Hx h) {m : Nat} (hm4 : m < 4) (q : h 0 ≤ nI m) : h (2 + m) = 0 ∧ h (6 + m) = 0 ∧ h (10 + m) = 0 := by
  obtain ⟨n, hn, h0, hm, -⟩ := H
  rw [h0] at q
  have : n ≤ m := by
    by_cases z : n ≤ m
    · exact z
    · exact absurd q (n_nle (by omega) (by omega) (by omega))
  exact (hm m hm4).2 this
theorem Hx_kind {h : Nat → Int32} (H : Hx h) : h 14 = 0 ∨ h 14 = 1 ∨ h 14 = 2 := by
  obtain ⟨n, hn, h0, hm, k, -⟩ := H
  obtain ⟨j, -, b, e⟩ := inB_ex (l := 0) (u := 2) (by decide) (by decide) k
  have : j = 0 ∨ j = 1 ∨ j = 2 := by omega
  rcases this with z | z | z <;> subst z
  · exact Or.inl e
  · exact Or.inr (Or.inl e)
  · exact Or.inr (Or.inr e)
theorem opn_Bok {h : Nat → Int32} (H : Hx h) : Bok h (opn h) := by
  obtain ⟨n, B, R, G⟩ := Hx_Hg H
  obtain ⟨r0, r1, r2, r3⟩ := Hg_Rok G
  refine ⟨⟨⟨fun q => ?_, fun q => ?_⟩, ⟨fun q => ?_, fun q => ?_⟩, ⟨fun q => ?_, fun q => ?_⟩, ⟨fun q => ?_, fun q => ?_⟩⟩, Hx_kind H⟩
  · have := (Hx_seat0 H (m := 0) (by decide) q).1; exact ⟨this, this⟩
  · show (0 : Int32) + 1 ≤ h 6; rw [Int32.zero_add]; exact r0 q
  · have := (Hx_seat0 H (m := 1) (by decide) q).1; exact ⟨this, this⟩
  · show (0 : Int32) + 1 ≤ h 7; rw [Int32.zero_add]; exact r1 q
  · have := (Hx_seat0 H (m := 2) (by decide) q).1; exact ⟨this, this⟩
  · show (0 : Int32) + 1 ≤ h 8; rw [Int32.zero_add]; exact r2 q
  · have := (Hx_seat0 H (m := 3) (by decide) q).1; exact ⟨this, this⟩
  · show (0 : Int32) + 1 ≤ h 9; rw [Int32.zero_add]; exact r3 q
theorem bgH_opn {h : Nat → Int32} (H : Hx h) : Eq25 (bgH h) (opn h) := by
  have K : ∀ m, m < 4 → (if h 0 ≤ nI m then (0 : Int32) else h (2 + m)) = h (2 + m) ∧ (if h 0 ≤ nI m then (0 : Int32) else h (10 + m)) = h (10 + m) := by
    intro m hm
    by_cases q : h 0 ≤ nI m
    · obtain ⟨a, -, c⟩ := Hx_seat0 H hm q
      rw [if_pos q, if_pos q, a, c]
      exact ⟨rfl, rfl⟩
    · rw [if_neg q, if_neg q]
      exact ⟨rfl, rfl⟩
  intro k hk
  match k, hk with
  | 0, _ => exact rfl
  | 1, _ => exact rfl
  | 2, _ => exact rfl
  | 3, _ => exact rfl
  | 4, _ => exact rfl
  | 5, _ => exact rfl
  | 6, _ => exact rfl
  | 7, _ => exact rfl
  | 8, _ => exact rfl
  | 9, _ => exact (K 0 (by decide)).1
  | 10, _ => exact (K 1 (by decide)).1
  | 11, _ => exact (K 2 (by decide)).1
  | 12, _ => exact (K 3 (by decide)).1
  | 13, _ => exact rfl
  | 14, _ => exact rfl
  | 15, _ => exact rfl
  | 16, _ => exact rfl
  | 17, _ => exact (K 0 (by decide)).2
  | 18, _ => exact (K 1 (by decide)).2
  | 19, _ => exact (K 2 (by decide)).2
  | 20, _ => exact (K 3 (by decide)).2
  | 21, _ => exact rfl
  | 22, _ => exact rfl
  | 23, _ => exact rfl
  | 24, _ => exact rfl
  | k + 25, hk => exact absurd hk (by omega)
