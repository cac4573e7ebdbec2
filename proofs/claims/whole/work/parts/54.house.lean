/-! the texts stay alike; the house that a text without a fault tells keeps its bounds -/
theorem tyR_set {tx ty : List Int32} {t : Nat} (hT : tyR tx ty t) (htx : tx.length = 400) (hty : ty.length = 400) (ht : t < 400) (v : Int64) {k : Nat} (hk : k < 8) : tyR (tx.set t (mbV v k)) (ty.set t (cbV v k)) (t + 1) := by
  intro j hj
  by_cases e : t = j
  · subst e
    obtain ⟨h1, n, hn, h2⟩ := cb_mb v k hk
    rw [gi_set_eq (by rw [htx]; exact ht), gi_set_eq (by rw [hty]; exact ht)]
    exact ⟨n, hn, h2, by rw [h1, h2]⟩
  · rw [gi_set_ne e, gi_set_ne e]
    exact hT j (by omega)
theorem tyR_ap (v : Int64) : ∀ (n t : Nat) (tx ty : List Int32), n ≤ 8 → t + n ≤ 400 → tx.length = 400 → ty.length = 400 → tyR tx ty t → tyR (mpT v n t tx) (apT v n t ty) (t + n) ∧ (mpT v n t tx).length = 400 ∧ (apT v n t ty).length = 400 := by
  intro n
  induction n with
  | zero => exact fun t tx ty _ _ h1 h2 h3 => ⟨h3, h1, h2⟩
  | succ n ih =>
    intro t tx ty hn ht h1 h2 h3
    have := ih (t + 1) (tx.set t (mbV v n)) (ty.set t (cbV v n)) (by omega) (by omega) (by rw [List.length_set]; exact h1) (by rw [List.length_set]; exact h2) (tyR_set h3 h1 h2 (by omega) v (by omega))
    rw [show t + 1 + n = t + (n + 1) by omega] at this
    exact this
def Hx (h : Nat → Int32) : Prop := ∃ n, n ≤ 4 ∧ h 0 = nI n ∧ (∀ m, m < 4 → (m < n → inB (h (2 + m)) 1 4 = true ∧ inB (h (6 + m)) 1 3 = true ∧ inB (h (10 + m)) 0 99 = true) ∧ (n ≤ m → h (2 + m) = 0 ∧ h (6 + m) = 0 ∧ h (10 + m) = 0)) ∧ inB (h 14) 0 2 = true ∧ inB (h 15) 0 99 = true ∧ inB (h 16) 0 99 = true ∧ inB (h 1) 0 100 = true
theorem Hx_clr : Hx hclr := by
  refine ⟨0, by decide, rfl, fun m hm => ⟨fun h => absurd h (Nat.not_lt_zero m), fun _ => ?_⟩, by decide, by decide, by decide, by decide⟩
  match m, hm with
  | 0, _ => exact ⟨rfl, rfl, rfl⟩
  | 1, _ => exact ⟨rfl, rfl, rfl⟩
  | 2, _ => exact ⟨rfl, rfl, rfl⟩
  | 3, _ => exact ⟨rfl, rfl, rfl⟩
theorem rnC_0 {v lo hi : Int32} {s e : Nat} (h : rnC v lo hi s e = 0) : inB v lo hi = true := by
  unfold rnC at h
  by_cases e1 : e = s
  · rw [if_pos e1] at h; exact absurd h (by decide)
  · rw [if_neg e1] at h
    by_cases e2 : 3 < e - s
    · rw [if_pos e2] at h; exact absurd h (by decide)
    · rw [if_neg e2] at h
      by_cases e3 : v < lo
      · rw [if_pos e3] at h; exact absurd h (by decide)
      · rw [if_neg e3] at h
        by_cases e4 : hi < v
        · rw [if_pos e4] at h; exact absurd h (by decide)
        · unfold inB
          rw [decide_eq_false e3, decide_eq_false e4]
          rfl
theorem bF_both {fd c : Int32} (h : bF fd c = 0) : fd = 0 ∧ c = 0 := by
  by_cases e : fd = 0
  · unfold bF at h
    rw [if_pos e] at h
    exact ⟨e, h⟩
  · exact absurd h (bF_nz e)
section
variable {ty : List Int32} {t : Nat} {lo hi : Int32} {q : Nat × Int32 × Int32}
theorem rn0 (h : (rnS ty t lo hi q).2.2 = 0) : q.2.2 = 0 ∧ inB (rnv ty t q.1) lo hi = true := by
  obtain ⟨a, b⟩ := bF_both h
  exact ⟨a, rnC_0 b⟩
theorem re0 (h : (reS ty t q).2.2 = 0) : q.2.2 = 0 := by
  unfold reS at h
  cases hb : btw ty t (skq ty t 32 32 q.1) 59 59 with
  | true => rw [hb] at h; exact h
  | false => rw [hb] at h; exact (bF_both h).1
theorem rk0 (h : (rkS ty t q).2.2 = 0) : q.2.2 = 0 := by
  unfold rkS at h
  cases hb : kdB ty (skq ty t 32 32 q.1) (skq ty t 97 122 (skq ty t 32 32 q.1)) with
  | true => rw [hb] at h; exact h
  | false => rw [hb] at h; exact (bF_both h).1
theorem q00 {c : Bool} {s : Nat} (h : (q0S c s q).2.2 = 0) : q.2.2 = 0 ∧ c = true := by
  cases c with
  | true => exact ⟨h, rfl⟩
  | false => exact absurd (bF_both h).2 (by decide)
theorem rkv_in {a : Nat} : inB (rkv ty t a) 0 2 = true := by
  unfold rkv kdV
  cases wdB ty (skq ty t 32 32 a) (skq ty t 97 122 (skq ty t 32 32 a)) 3 <;> cases wdB ty (skq ty t 32 32 a) (skq ty t 97 122 (skq ty t 32 32 a)) 4 <;> cases wdB ty (skq ty t 32 32 a) (skq ty t 97 122 (skq ty t 32 32 a)) 5 <;> decide
end
theorem stH_2 {h : Nat → Int32} {x y z : Int32} : ∀ {n m : Nat}, n < 4 → m < 4 → stH h n x y z (2 + m) = if m = n then x else h (2 + m) := by
  intro n m hn hm
  match n, hn, m, hm with
  | 0, _, 0, _ => exact rfl
  | 0, _, 1, _ => exact rfl
  | 0, _, 2, _ => exact rfl
  | 0, _, 3, _ => exact rfl
  | 1, _, 0, _ => exact rfl
  | 1, _, 1, _ => exact rfl
  | 1, _, 2, _ => exact rfl
  | 1, _, 3, _ => exact rfl
  | 2, _, 0, _ => exact rfl
  | 2, _, 1, _ => exact rfl
  | 2, _, 2, _ => exact rfl
  | 2, _, 3, _ => exact rfl
  | 3, _, 0, _ => exact rfl
  | 3, _, 1, _ => exact rfl
  | 3, _, 2, _ => exact rfl
  | 3, _, 3, _ => exact rfl
theorem stH_6 {h : Nat → Int32} {x y z : Int32} : ∀ {n m : Nat}, n < 4 → m < 4 → stH h n x y z (6 + m) = if m = n then y else h (6 + m) := by
  intro n m hn hm
  match n, hn, m, hm with
  | 0, _, 0, _ => exact rfl
  | 0, _, 1, _ => exact rfl
  | 0, _, 2, _ => exact rfl
  | 0, _, 3, _ => exact rfl
  | 1, _, 0, _ => exact rfl
  | 1, _, 1, _ => exact rfl
  | 1, _, 2, _ => exact rfl
  | 1, _, 3, _ => exact rfl
  | 2, _, 0, _ => exact rfl
  | 2, _, 1, _ => exact rfl
  | 2, _, 2, _ => exact rfl
  | 2, _, 3, _ => exact rfl
  | 3, _, 0, _ => exact rfl
  | 3, _, 1, _ => exact rfl
  | 3, _, 2, _ => exact rfl
  | 3, _, 3, _ => exact rfl
theorem stH_10 {h : Nat → Int32} {x y z : Int32} : ∀ {n m : Nat}, n < 4 → m < 4 → stH h n x y z (10 + m) = if m = n then z else h (10 + m) := by
  intro n m hn hm
  match n, hn, m, hm with
  | 0, _, 0, _ => exact rfl
  | 0, _, 1, _ => exact rfl
  | 0, _, 2, _ => exact rfl
  | 0, _, 3, _ => exact rfl
  | 1, _, 0, _ => exact rfl
  | 1, _, 1, _ => exact rfl
  | 1, _, 2, _ => exact rfl
  | 1, _, 3, _ => exact rfl
  | 2, _, 0, _ => exact rfl
  | 2, _, 1, _ => exact rfl
  | 2, _, 2, _ => exact rfl
  | 2, _, 3, _ => exact rfl
  | 3, _, 0, _ => exact rfl
  | 3, _, 1, _ => exact rfl
  | 3, _, 2, _ => exact rfl
  | 3, _, 3, _ => exact rfl
theorem seatH_n {h : Nat → Int32} {n : Nat} (hn : n < 4) (h0 : h 0 = nI n) (x y z : Int32) : seatH h x y z = stH h n x y z := by
  unfold seatH
  match n, hn with
  | 0, _ => rw [if_pos (show h 0 = 0 from h0)]
  | 1, _ => rw [if_neg (by rw [h0]; decide), if_pos (show h 0 = 1 from h0)]
  | 2, _ => rw [if_neg (by rw [h0]; decide), if_neg (by rw [h0]; decide), if_pos (show h 0 = 2 from h0)]
  | 3, _ => rw [if_neg (by rw [h0]; decide), if_neg (by rw [h0]; decide), if_neg (by rw [h0]; decide), if_pos (show h 0 = 3 from h0)]
theorem Hx_seat {h : Nat → Int32} (H : Hx h) (h4 : h 0 < 4) {x y z : Int32} (hx : inB x 1 4 = true) (hy : inB y 1 3 = true) (hz : inB z 0 99 = true) : Hx (seatH h x y z) := by
  obtain ⟨n, hn, h0, hm, k1, k2, k3, k4⟩ := H
  have hn4 : n < 4 := by
    rw [h0] at h4
    by_cases q : n < 4
    · exact q
    · exact absurd h4 (n_nlt (b := 4) (by omega) (by omega) (by omega))
  rw [seatH_n hn4 h0]
  refine ⟨n + 1, by omega, rfl, fun m hm4 => ?_, ?_, ?_, ?_, ?_⟩
  · rw [stH_2 hn4 hm4, stH_6 hn4 hm4, stH_10 hn4 hm4]
    by_cases e : m = n
    · rw [if_pos e, if_pos e, if_pos e]
      exact ⟨fun _ => ⟨hx, hy, hz⟩, fun q => absurd q (by omega)⟩
    · rw [if_neg e, if_neg e, if_neg e]
      exact ⟨fun q => (hm m hm4).1 (by omega), fun q => (hm m hm4).2 (by omega)⟩
  · rw [stH_hi hn4 (by decide)]; exact k1
  · rw [stH_hi hn4 (by decide)]; exact k2
  · rw [stH_hi hn4 (by decide)]; exact k3
  · have : stH h n x y z 1 = h 1 := by
      match n, hn4 with
      | 0, _ => rfl
      | 1, _ => rfl
      | 2, _ => rfl
      | 3, _ => rfl
    rw [this]; exact k4
theorem Hx_law {h : Nat → Int32} (H : Hx h) {x y z : Int32} (hx : inB x 0 2 = true) (hy : inB y 0 99 = true) (hz : inB z 0 99 = true) : Hx (hlw h x y z) := by
  obtain ⟨n, hn, h0, hm, k1, k2, k3, k4⟩ := H
  refine ⟨n, hn, h0, fun m hm4 => ?_, hx, hy, hz, k4⟩
  rw [hlw_lo (show 2 + m < 14 by omega), hlw_lo (show 6 + m < 14 by omega), hlw_lo (show 10 + m < 14 by omega)]
  exact hm m hm4
theorem hcg_o {h : Nat → Int32} {v : Int32} {k : Nat} (h2 : 2 ≤ k) (hk : k < 17) : hcg h v k = h k := by
  match k, h2, hk with
  | 0, h2, _ => exact absurd h2 (by decide)
  | 1, h2, _ => exact absurd h2 (by decide)
  | 2, _, _ => exact rfl
  | 3, _, _ => exact rfl
  | 4, _, _ => exact rfl
  | 5, _, _ => exact rfl
  | 6, _, _ => exact rfl
  | 7, _, _ => exact rfl
  | 8, _, _ => exact rfl
  | 9, _, _ => exact rfl
  | 10, _, _ => exact rfl
  | 11, _, _ => exact rfl
  | 12, _, _ => exact rfl
  | 13, _, _ => exact rfl
  | 14, _, _ => exact rfl
  | 15, _, _ => exact rfl
  | 16, _, _ => exact rfl
  | k + 17, _, hk => exact absurd hk (by omega)
theorem Hx_cough {h : Nat → Int32} (H : Hx h) {v : Int32} (hv : inB v 0 100 = true) : Hx (hcg h v) := by
  obtain ⟨n, hn, h0, hm, k1, k2, k3, k4⟩ := H
  refine ⟨n, hn, h0, fun m hm4 => ?_, k1, k2, k3, hv⟩
  rw [hcg_o (show 2 ≤ 2 + m by omega) (by omega), hcg_o (show 2 ≤ 6 + m by omega) (by omega), hcg_o (show 2 ≤ 10 + m by omega) (by omega)]
  exact hm m hm4
theorem clS_Hx {ty : List Int32} {t : Nat} {C : Cs} (H : C.1.2.2 = 0 → Hx C.2.2) : (clS ty t C).1.2.2 = 0 → Hx (clS ty t C).2.2 := by
  obtain ⟨⟨s, pl, fd⟩, ⟨lt, ct⟩, h⟩ := C
  cases h0 : wdB ty s (skq ty t 97 122 s) 0 with
  | true =>
    rw [clS_0 h0]
    intro hz
    show Hx (meH ty t s (skq ty t 97 122 s, pl, fd) h)
    have hz' : (meS ty t s (skq ty t 97 122 s, pl, fd) h).2.2 = 0 := hz
    unfold meH
    rw [if_pos hz']
    unfold meS at hz'
    obtain ⟨a3, b3⟩ := rn0 (re0 hz')
    obtain ⟨a2, b2⟩ := rn0 a3
    obtain ⟨a1, b1⟩ := rn0 a2
    obtain ⟨a0, b0⟩ := q00 a1
    exact Hx_seat (H a0) (of_decide_eq_true b0) b1 b2 b3
  | false =>
    cases h1 : wdB ty s (skq ty t 97 122 s) 1 with
    | true =>
      rw [clS_1 h0 h1]
      intro hz
      show Hx (laH ty t s lt (skq ty t 97 122 s, pl, fd) h)
      have hz' : (laS ty t s lt (skq ty t 97 122 s, pl, fd)).2.2 = 0 := hz
      unfold laS at hz'
      obtain ⟨a3, b3⟩ := rn0 (re0 hz')
      obtain ⟨a2, b2⟩ := rn0 a3
      obtain ⟨a0, -⟩ := q00 (rk0 a2)
      exact Hx_law (H a0) rkv_in b2 b3
    | false =>
      cases h2 : wdB ty s (skq ty t 97 122 s) 2 with
      | true =>
        rw [clS_2 h0 h1 h2]
        intro hz
        show Hx (coH ty t s ct (skq ty t 97 122 s, pl, fd) h)
        have hz' : (coS ty t s ct (skq ty t 97 122 s, pl, fd)).2.2 = 0 := hz
        unfold coS at hz'
        obtain ⟨a3, b3⟩ := rn0 (re0 hz')
        obtain ⟨a0, -⟩ := q00 a3
        exact Hx_cough (H a0) b3
      | false =>
        rw [clS_3 h0 h1 h2]
        exact fun hz => H (bF_both hz).1
theorem rdL_Hx {ty : List Int32} {t : Nat} (k : Nat) : ∀ {C : Cs}, (C.1.2.2 = 0 → Hx C.2.2) → (rdL ty t k C).1.2.2 = 0 → Hx (rdL ty t k C).2.2 := by
  induction k with
  | zero => exact fun h => h
  | succ k ih =>
    intro C h
    by_cases e : C.1.1 < t ∧ C.1.2.2 = 0
    · rw [rdL_t e.1 e.2]; exact ih (C := skC ty t (clS ty t C)) (clS_Hx h)
    · rw [rdL_f e]; exact h
theorem rdE_Hx {ty : List Int32} {t : Nat} (h : (rdE ty t).1.2.2 = 0) : Hx (rdE ty t).2.2 := rdL_Hx 400 (fun _ => Hx_clr) h
