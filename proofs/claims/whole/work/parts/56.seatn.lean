/-! a seat as numbers: AIR A, RESTS E, WORDS W; what a beat does to it; its WIND -/
def Sv (B R A E W : Nat) : Prop := A ≤ B ∧ W ≤ 99 ∧ (1 ≤ R → E + 1 ≤ R) ∧ (A = B → E = 0)
def nxN (B R : Nat) (f : Bool) (A E : Nat) : Nat × Nat := bif f then (A - 1, 0) else if A = B then (A, E) else if E + 1 = R then (A + 1, 0) else (A, E + 1)
def Br (B R : Nat) : Prop := B ≤ 4 ∧ R ≤ 3 ∧ (1 ≤ R ∨ B = 0)
theorem canB_N {A W : Nat} (hA : A < 2 ^ 31) (hW : W < 2 ^ 31) : canB (nI A) (nI W) = (decide (0 < A) && decide (0 < W)) := by
  unfold canB
  have e1 : (!decide (nI A ≤ 0)) = decide (0 < A) := by
    by_cases q : 0 < A
    · rw [decide_eq_true q, decide_eq_false (show ¬ nI A ≤ 0 from n_nle (b := 0) hA (by decide) q)]; rfl
    · rw [decide_eq_false q, decide_eq_true (show nI A ≤ 0 from n_le (b := 0) hA (by decide) (by omega))]; rfl
  have e2 : (!decide (nI W ≤ 0)) = decide (0 < W) := by
    by_cases q : 0 < W
    · rw [decide_eq_true q, decide_eq_false (show ¬ nI W ≤ 0 from n_nle (b := 0) hW (by decide) q)]; rfl
    · rw [decide_eq_false q, decide_eq_true (show nI W ≤ 0 from n_le (b := 0) hW (by decide) (by omega))]; rfl
  rw [e1, e2]
theorem nA_N {B R A E : Nat} (hb : Br B R) (hA : A ≤ B) (hE : 1 ≤ R → E + 1 ≤ R) {f : Bool} (hf : f = true → 0 < A) : nA f (nI B) (nI R) (nI A) (nI E) = nI (nxN B R f A E).1 := by
  obtain ⟨b1, b2, b3⟩ := hb
  cases f with
  | true => show nI A - 1 = nI (A - 1); rw [show (1 : Int32) = nI 1 from rfl, nI_sub (hf rfl)]
  | false =>
    show trA (nI B) (nI R) (nI A) (nI E) = nI (if A = B then (A, E) else if E + 1 = R then (A + 1, 0) else (A, E + 1)).1
    unfold trA
    by_cases e1 : A = B
    · rw [if_pos (n_le (by omega) (by omega) (by omega)), if_pos e1]
    · have hR : 1 ≤ R := b3.resolve_right (by omega)
      have := hE hR
      rw [if_neg (n_nle (by omega) (by omega) (by omega)), if_neg e1, nI_1]
      by_cases e2 : E + 1 = R
      · rw [if_pos (n_le (by omega) (by omega) (by omega)), if_pos e2, nI_1]
      · rw [if_neg (n_nle (by omega) (by omega) (by omega)), if_neg e2]
theorem nE_N {B R A E : Nat} (hb : Br B R) (hA : A ≤ B) (hE : 1 ≤ R → E + 1 ≤ R) {f : Bool} : nE f (nI B) (nI R) (nI A) (nI E) = nI (nxN B R f A E).2 := by
  obtain ⟨b1, b2, b3⟩ := hb
  cases f with
  | true => rfl
  | false =>
    show trR (nI B) (nI R) (nI A) (nI E) = nI (if A = B then (A, E) else if E + 1 = R then (A + 1, 0) else (A, E + 1)).2
    unfold trR
    by_cases e1 : A = B
    · rw [if_pos (n_le (by omega) (by omega) (by omega)), if_pos e1]
    · have hR : 1 ≤ R := b3.resolve_right (by omega)
      have := hE hR
      rw [if_neg (n_nle (by omega) (by omega) (by omega)), if_neg e1, nI_1]
      by_cases e2 : E + 1 = R
      · rw [if_pos (n_le (by omega) (by omega) (by omega)), if_pos e2]
        rfl
      · rw [if_neg (n_nle (by omega) (by omega) (by omega)), if_neg e2]
theorem nW_N {W : Nat} {f : Bool} (hf : f = true → 0 < W) : nW f (nI W) = nI (bif f then W - 1 else W) := by
  cases f with
  | true => show nI W - 1 = nI (W - 1); rw [show (1 : Int32) = nI 1 from rfl, nI_sub (hf rfl)]
  | false => rfl
theorem Sv_nx {B R A E W : Nat} (hb : Br B R) (h : Sv B R A E W) {f : Bool} (hf : f = true → 0 < A) : Sv B R (nxN B R f A E).1 (nxN B R f A E).2 (bif f then W - 1 else W) := by
  obtain ⟨h1, h2, h3, h4⟩ := h
  obtain ⟨b1, b2, b3⟩ := hb
  cases f with
  | true =>
    have := hf rfl
    exact ⟨by show A - 1 ≤ B; omega, by show W - 1 ≤ 99; omega, fun q => q, fun _ => rfl⟩
  | false =>
    show Sv B R (if A = B then (A, E) else if E + 1 = R then (A + 1, 0) else (A, E + 1)).1 (if A = B then (A, E) else if E + 1 = R then (A + 1, 0) else (A, E + 1)).2 W
    by_cases e1 : A = B
    · rw [if_pos e1]; exact ⟨h1, h2, h3, h4⟩
    · rw [if_neg e1]
      by_cases e2 : E + 1 = R
      · rw [if_pos e2]; exact ⟨by show A + 1 ≤ B; omega, h2, fun q => q, fun _ => rfl⟩
      · rw [if_neg e2]; exact ⟨h1, h2, fun q => by have := h3 q; show E + 1 + 1 ≤ R; omega, fun q => absurd q e1⟩
/-- WIND: a beat of rest is one more, up to BREATH times R -/
def wdN (R A E : Nat) : Nat := A * R + E
theorem wdN_le {B R A E W : Nat} (hb : Br B R) (h : Sv B R A E W) : wdN R A E ≤ B * R := by
  obtain ⟨h1, h2, h3, h4⟩ := h
  unfold wdN
  by_cases e1 : A = B
  · rw [h4 e1, e1]; exact Nat.le_refl _
  · have hR : 1 ≤ R := hb.2.2.resolve_right (by omega)
    have := h3 hR
    have h5 : (A + 1) * R ≤ B * R := Nat.mul_le_mul_right R (by omega)
    rw [Nat.succ_mul] at h5
    omega
theorem wdN_rest {B R A E W : Nat} (hb : Br B R) (h : Sv B R A E W) : wdN R (nxN B R false A E).1 (nxN B R false A E).2 = min (wdN R A E + 1) (B * R) := by
  have hle := wdN_le hb h
  obtain ⟨h1, h2, h3, h4⟩ := h
  show wdN R (if A = B then (A, E) else if E + 1 = R then (A + 1, 0) else (A, E + 1)).1 (if A = B then (A, E) else if E + 1 = R then (A + 1, 0) else (A, E + 1)).2 = _
  by_cases e1 : A = B
  · rw [if_pos e1]
    have : wdN R A E = B * R := by unfold wdN; rw [h4 e1, e1]; rfl
    show wdN R A E = _
    rw [this]
    omega
  · rw [if_neg e1]
    have hR : 1 ≤ R := hb.2.2.resolve_right (by omega)
    have h6 := h3 hR
    have h5 : (A + 1) * R ≤ B * R := Nat.mul_le_mul_right R (by omega)
    rw [Nat.succ_mul] at h5
    by_cases e2 : E + 1 = R
    · rw [if_pos e2]
      show (A + 1) * R + 0 = min (A * R + E + 1) (B * R)
      rw [Nat.succ_mul]
      omega
    · rw [if_neg e2]
      show A * R + (E + 1) = min (A * R + E + 1) (B * R)
      omega
theorem wdN_air {R A E : Nat} (hR : E + 1 ≤ R) : wdN R A E / R = A := by
  unfold wdN
  rw [Nat.mul_comm, Nat.mul_add_div (by omega), Nat.div_eq_of_lt (by omega), Nat.add_zero]
