def wrN (b : Nat → Nat) : Nat → Nat
  | 0 => 0
  | k + 1 => 256 * wrN b k + b k
theorem wrN_lt {b : Nat → Nat} {n : Nat} (h : ∀ k, k < n → b k < 128) : 2 * wrN b n < 256 ^ n := by
  induction n with
  | zero => exact (by decide : 2 * 0 < 256 ^ 0)
  | succ n ih =>
    have h1 := ih (fun k hk => h k (by omega))
    have h2 := h n (by omega)
    show 2 * (256 * wrN b n + b n) < 256 ^ (n + 1)
    rw [Nat.pow_succ]
    omega
theorem i64_small {n : Nat} (h : n < 2 ^ 31) : Int32.toInt64 (nI n) = Int64.ofNat n := by
  apply Int64.toInt_inj.mp
  rw [Int32.toInt_toInt64, nI_toInt h, Int64.toInt_ofNat_of_lt (by omega)]
theorem wrV_N {tx : List Int32} {t s n : Nat} {b : Nat → Nat} (h : ∀ k, k < n → bat tx t (s + k) = nI (b k) ∧ b k < 128) : wrV tx t s n = Int64.ofNat (wrN b n) := by
  induction n with
  | zero => rfl
  | succ n ih =>
    obtain ⟨h1, h2⟩ := h n (by omega)
    show 256 * wrV tx t s n + Int32.toInt64 (bat tx t (s + n)) = Int64.ofNat (256 * wrN b n + b n)
    rw [ih (fun k hk => h k (by omega)), h1, i64_small (by omega), Int64.ofNat_add, Int64.ofNat_mul]
    rfl
theorem lgc0 (x y : Int64) : decide (lg_cmp x y = 0) = decide (x = y) := by
  unfold lg_cmp
  by_cases h1 : x > y
  · have hne : ¬ x = y := fun e => by rw [e] at h1; exact Int64.lt_irrefl h1
    rw [if_pos h1, decide_eq_false hne]
    decide
  · rw [if_neg h1]
    by_cases h2 : x = y
    · rw [if_pos h2, decide_eq_true h2]
      decide
    · rw [if_neg h2, decide_eq_false h2]
      decide
theorem wdB_no {ty : List Int32} {s i : Nat} (h : 0 < jSL.getD i 0) : wdB ty s s i = false := by
  unfold wdB
  rw [Nat.sub_self, decide_eq_false (by omega)]
  rfl
theorem bat_let {tx ty : List Int32} {t k : Nat} (hT : tyR tx ty t) (h : btw ty t k 97 122 = true) : ∃ n, 97 ≤ n ∧ n ≤ 122 ∧ bat tx t k = nI n ∧ gi ty k = nI n := by
  have hk := btw_lt h
  obtain ⟨n, hn, e1, e2⟩ := hT k hk
  have e3 := bgi hT h (by decide) (by decide)
  unfold bat at e3 ⊢
  rw [if_pos hk] at e3 ⊢
  obtain ⟨-, h2⟩ := Bool.and_eq_true_iff.mp h
  obtain ⟨h3, h4⟩ := Bool.and_eq_true_iff.mp h2
  have g3 : ¬ gi ty k < 97 := by simpa using h3
  have g4 : ¬ 122 < gi ty k := by simpa using h4
  rw [← e3, e1] at g3 g4
  refine ⟨n, ?_, ?_, e1, e3 ▸ e1⟩
  · by_cases q : 97 ≤ n
    · exact q
    · exact absurd (n_lt (a := n) (b := 97) (by omega) (by omega) (by omega)) g3
  · by_cases q : n ≤ 122
    · exact q
    · exact absurd (n_lt (a := 122) (b := n) (by omega) (by omega) (by omega)) g4
theorem nI_ei {a b : Nat} (ha : a < 2 ^ 31) (hb : b < 2 ^ 31) : (nI a = nI b) = (a = b) := by
  apply propext
  constructor
  · intro h
    have := congrArg Int32.toInt h
    rw [nI_toInt ha, nI_toInt hb] at this
    omega
  · intro h; rw [h]
theorem tso_3 {ty : List Int32} {t s : Nat} (h : tso ty t s = 3) : btw ty t s 59 59 = true := by
  cases h3 : btw ty t s 59 59 with
  | true => rfl
  | false =>
    unfold tso at h
    rw [h3] at h
    revert h
    cases btw ty t s 97 122 <;> cases btw ty t s 48 57 <;> cases decide (s < t) <;> decide
theorem tso_n3 {ty : List Int32} {t s : Nat} (h : ¬ tso ty t s = 3) : btw ty t s 59 59 = false := by
  cases h3 : btw ty t s 59 59 with
  | false => rfl
  | true =>
    refine absurd ?_ h
    unfold tso
    rw [btw_dis (lo' := 97) (hi' := 122) h3 (by decide), btw_dis2 (lo' := 48) (hi' := 57) h3 (by decide), h3]
    rfl
theorem wrN_0 {b : Nat → Nat} {n : Nat} (hn : n < 9) (hb : ∀ k, k < n → 97 ≤ b k ∧ b k ≤ 122) : (wrN b n = 120282394289522) ↔ (n = 6 ∧ b 0 = 109 ∧ b 1 = 101 ∧ b 2 = 109 ∧ b 3 = 98 ∧ b 4 = 101 ∧ b 5 = 114) := by
  match n, hn with
  | 0, _ =>
    show (0 = 120282394289522) ↔ _
    constructor
    · intro h
      exact absurd h (by omega)
    · rintro ⟨h, -⟩
      exact absurd h (by omega)
  | 1, _ =>
    have h0 := hb 0 (by omega)
    show ((256 * 0 + b 0) = 120282394289522) ↔ _
    constructor
    · intro h
      exact absurd h (by omega)
    · rintro ⟨h, -⟩
      exact absurd h (by omega)
  | 2, _ =>
    have h0 := hb 0 (by omega)
    have h1 := hb 1 (by omega)
    show ((256 * (256 * 0 + b 0) + b 1) = 120282394289522) ↔ _
    constructor
    · intro h
      exact absurd h (by omega)
    · rintro ⟨h, -⟩
      exact absurd h (by omega)
  | 3, _ =>
    have h0 := hb 0 (by omega)
    have h1 := hb 1 (by omega)
    have h2 := hb 2 (by omega)
    show ((256 * (256 * (256 * 0 + b 0) + b 1) + b 2) = 120282394289522) ↔ _
    constructor
    · intro h
      exact absurd h (by omega)
    · rintro ⟨h, -⟩
      exact absurd h (by omega)
  | 4, _ =>
    have h0 := hb 0 (by omega)
    have h1 := hb 1 (by omega)
    have h2 := hb 2 (by omega)
    have h3 := hb 3 (by omega)
    show ((256 * (256 * (256 * (256 * 0 + b 0) + b 1) + b 2) + b 3) = 120282394289522) ↔ _
    constructor
    · intro h
      exact absurd h (by omega)
    · rintro ⟨h, -⟩
      exact absurd h (by omega)
  | 5, _ =>
    have h0 := hb 0 (by omega)
    have h1 := hb 1 (by omega)
    have h2 := hb 2 (by omega)
    have h3 := hb 3 (by omega)
    have h4 := hb 4 (by omega)
    show ((256 * (256 * (256 * (256 * (256 * 0 + b 0) + b 1) + b 2) + b 3) + b 4) = 120282394289522) ↔ _
    constructor
    · intro h
      exact absurd h (by omega)
    · rintro ⟨h, -⟩
      exact absurd h (by omega)
  | 6, _ =>
    have h0 := hb 0 (by omega)
    have h1 := hb 1 (by omega)
    have h2 := hb 2 (by omega)
    have h3 := hb 3 (by omega)
    have h4 := hb 4 (by omega)
    have h5 := hb 5 (by omega)
    show ((256 * (256 * (256 * (256 * (256 * (256 * 0 + b 0) + b 1) + b 2) + b 3) + b 4) + b 5) = 120282394289522) ↔ _
    constructor
    · intro h
      refine ⟨rfl, ?_⟩
      omega
    · rintro ⟨-, h⟩
      omega
  | 7, _ =>
    have h0 := hb 0 (by omega)
    have h1 := hb 1 (by omega)
    have h2 := hb 2 (by omega)
    have h3 := hb 3 (by omega)
    have h4 := hb 4 (by omega)
    have h5 := hb 5 (by omega)
    have h6 := hb 6 (by omega)
    show ((256 * (256 * (256 * (256 * (256 * (256 * (256 * 0 + b 0) + b 1) + b 2) + b 3) + b 4) + b 5) + b 6) = 120282394289522) ↔ _
    constructor
    · intro h
      exact absurd h (by omega)
    · rintro ⟨h, -⟩
      exact absurd h (by omega)
  | 8, _ =>
    have h0 := hb 0 (by omega)
    have h1 := hb 1 (by omega)
    have h2 := hb 2 (by omega)
    have h3 := hb 3 (by omega)
    have h4 := hb 4 (by omega)
    have h5 := hb 5 (by omega)
    have h6 := hb 6 (by omega)
    have h7 := hb 7 (by omega)
    show ((256 * (256 * (256 * (256 * (256 * (256 * (256 * (256 * 0 + b 0) + b 1) + b 2) + b 3) + b 4) + b 5) + b 6) + b 7) = 120282394289522) ↔ _
    constructor
    · intro h
      exact absurd h (by omega)
    · rintro ⟨h, -⟩
      exact absurd h (by omega)
theorem wrk_0 {tx ty : List Int32} {t s : Nat} (hT : tyR tx ty t) (hs : s ≤ t) : decide (lg_cmp (wrI tx t (tso ty t s) s (tke ty t s - s)) 120282394289522 = 0) = wdB ty s (skq ty t 97 122 s) 0 := by
  rw [lgc0]
  cases hb : btw ty t s 97 122 with
  | false =>
    rw [skq_eq hs hb, wdB_no (by decide)]
    unfold wrI
    rw [if_neg (fun h => tso_nw hb h.1)]
    decide
  | true =>
    have htk : tke ty t s = skq ty t 97 122 s := by unfold tke; rw [hb]; rfl
    rw [htk, tso_w hb]
    have hgt := skq_gt hb
    have hin : ∀ k, s ≤ k → k < skq ty t 97 122 s → btw ty t k 97 122 = true := fun k h1 h2 => skq_in h1 h2
    generalize skq ty t 97 122 s = e at *
    by_cases h9 : e - s < 9
    · have h0 : ∀ k, ∃ n, k < e - s → 97 ≤ n ∧ n ≤ 122 ∧ bat tx t (s + k) = nI n ∧ gi ty (s + k) = nI n := by
        intro k
        by_cases hk : k < e - s
        · obtain ⟨n, hn⟩ := bat_let hT (hin (s + k) (by omega) (by omega))
          exact ⟨n, fun _ => hn⟩
        · exact ⟨0, fun h => absurd h hk⟩
      obtain ⟨b, hbb⟩ := Classical.axiomOfChoice h0
      have hV : wrI tx t 1 s (e - s) = Int64.ofNat (wrN b (e - s)) := by
        unfold wrI
        rw [if_pos ⟨rfl, h9⟩]
        exact wrV_N (fun k hk => ⟨(hbb k hk).2.2.1, by have := (hbb k hk).2.1; omega⟩)
      have hlt := wrN_lt (b := b) (n := e - s) (fun k hk => by have := (hbb k hk).2.1; omega)
      have hp : 256 ^ (e - s) ≤ 256 ^ 8 := Nat.pow_le_pow_right (by decide) (by omega)
      have hsm : wrN b (e - s) < 2 ^ 63 := by have h64 : (256 : Nat) ^ 8 = 2 ^ 64 := (by decide); omega
      have hEq : (Int64.ofNat (wrN b (e - s)) = (120282394289522 : Int64)) ↔ wrN b (e - s) = 120282394289522 := by
        constructor
        · intro h
          have h2 := congrArg Int64.toInt h
          rw [Int64.toInt_ofNat_of_lt hsm] at h2
          have h3 : (120282394289522 : Int64).toInt = 120282394289522 := by decide
          omega
        · intro h; rw [h]; rfl
      rw [hV, wd_0, decide_eq_decide.mpr (hEq.trans (wrN_0 h9 (fun k hk => ⟨(hbb k hk).1, (hbb k hk).2.1⟩)))]
      by_cases hn : e - s = 6
      · obtain ⟨-, u0, -, g0⟩ := hbb 0 (by omega)
        obtain ⟨-, u1, -, g1⟩ := hbb 1 (by omega)
        obtain ⟨-, u2, -, g2⟩ := hbb 2 (by omega)
        obtain ⟨-, u3, -, g3⟩ := hbb 3 (by omega)
        obtain ⟨-, u4, -, g4⟩ := hbb 4 (by omega)
        obtain ⟨-, u5, -, g5⟩ := hbb 5 (by omega)
        rw [decide_eq_true hn, Bool.true_and]
        simp only [g0, g1, g2, g3, g4, g5, hn, true_and]
        rw [show decide (nI (b 0) = (109 : Int32)) = decide (b 0 = 109) from decide_eq_decide.mpr (iff_of_eq (nI_ei (b := 109) (by omega) (by omega)))]
        rw [show decide (nI (b 1) = (101 : Int32)) = decide (b 1 = 101) from decide_eq_decide.mpr (iff_of_eq (nI_ei (b := 101) (by omega) (by omega)))]
        rw [show decide (nI (b 2) = (109 : Int32)) = decide (b 2 = 109) from decide_eq_decide.mpr (iff_of_eq (nI_ei (b := 109) (by omega) (by omega)))]
        rw [show decide (nI (b 3) = (98 : Int32)) = decide (b 3 = 98) from decide_eq_decide.mpr (iff_of_eq (nI_ei (b := 98) (by omega) (by omega)))]
        rw [show decide (nI (b 4) = (101 : Int32)) = decide (b 4 = 101) from decide_eq_decide.mpr (iff_of_eq (nI_ei (b := 101) (by omega) (by omega)))]
        rw [show decide (nI (b 5) = (114 : Int32)) = decide (b 5 = 114) from decide_eq_decide.mpr (iff_of_eq (nI_ei (b := 114) (by omega) (by omega)))]
        simp only [Bool.and_true, Bool.decide_and, Bool.and_assoc]
      · rw [decide_eq_false hn, Bool.false_and, decide_eq_false (fun h => hn h.1)]
    · unfold wrI wdB
      rw [if_neg (fun h => h9 h.2), decide_eq_false (show ¬ e - s = jSL.getD 0 0 from by show ¬ e - s = 6; omega), Bool.false_and]
      decide
theorem wrN_1 {b : Nat → Nat} {n : Nat} (hn : n < 9) (hb : ∀ k, k < n → 97 ≤ b k ∧ b k ≤ 122) : (wrN b n = 7102839) ↔ (n = 3 ∧ b 0 = 108 ∧ b 1 = 97 ∧ b 2 = 119) := by
  match n, hn with
  | 0, _ =>
    show (0 = 7102839) ↔ _
    constructor
    · intro h
      exact absurd h (by omega)
    · rintro ⟨h, -⟩
      exact absurd h (by omega)
  | 1, _ =>
    have h0 := hb 0 (by omega)
    show ((256 * 0 + b 0) = 7102839) ↔ _
    constructor
    · intro h
      exact absurd h (by omega)
    · rintro ⟨h, -⟩
      exact absurd h (by omega)
  | 2, _ =>
    have h0 := hb 0 (by omega)
    have h1 := hb 1 (by omega)
    show ((256 * (256 * 0 + b 0) + b 1) = 7102839) ↔ _
    constructor
    · intro h
      exact absurd h (by omega)
    · rintro ⟨h, -⟩
      exact absurd h (by omega)
  | 3, _ =>
    have h0 := hb 0 (by omega)
    have h1 := hb 1 (by omega)
    have h2 := hb 2 (by omega)
    show ((256 * (256 * (256 * 0 + b 0) + b 1) + b 2) = 7102839) ↔ _
    constructor
    · intro h
      refine ⟨rfl, ?_⟩
      omega
    · rintro ⟨-, h⟩
      omega
  | 4, _ =>
    have h0 := hb 0 (by omega)
    have h1 := hb 1 (by omega)
    have h2 := hb 2 (by omega)
    have h3 := hb 3 (by omega)
    show ((256 * (256 * (256 * (256 * 0 + b 0) + b 1) + b 2) + b 3) = 7102839) ↔ _
    constructor
    · intro h
      exact absurd h (by omega)
    · rintro ⟨h, -⟩
      exact absurd h (by omega)
  | 5, _ =>
    have h0 := hb 0 (by omega)
    have h1 := hb 1 (by omega)
    have h2 := hb 2 (by omega)
    have h3 := hb 3 (by omega)
    have h4 := hb 4 (by omega)
    show ((256 * (256 * (256 * (256 * (256 * 0 + b 0) + b 1) + b 2) + b 3) + b 4) = 7102839) ↔ _
    constructor
    · intro h
      exact absurd h (by omega)
    · rintro ⟨h, -⟩
      exact absurd h (by omega)
  | 6, _ =>
    have h0 := hb 0 (by omega)
    have h1 := hb 1 (by omega)
    have h2 := hb 2 (by omega)
    have h3 := hb 3 (by omega)
    have h4 := hb 4 (by omega)
    have h5 := hb 5 (by omega)
    show ((256 * (256 * (256 * (256 * (256 * (256 * 0 + b 0) + b 1) + b 2) + b 3) + b 4) + b 5) = 7102839) ↔ _
    constructor
    · intro h
      exact absurd h (by omega)
    · rintro ⟨h, -⟩
      exact absurd h (by omega)
  | 7, _ =>
    have h0 := hb 0 (by omega)
    have h1 := hb 1 (by omega)
    have h2 := hb 2 (by omega)
    have h3 := hb 3 (by omega)
    have h4 := hb 4 (by omega)
    have h5 := hb 5 (by omega)
    have h6 := hb 6 (by omega)
    show ((256 * (256 * (256 * (256 * (256 * (256 * (256 * 0 + b 0) + b 1) + b 2) + b 3) + b 4) + b 5) + b 6) = 7102839) ↔ _
    constructor
    · intro h
      exact absurd h (by omega)
    · rintro ⟨h, -⟩
      exact absurd h (by omega)
  | 8, _ =>
    have h0 := hb 0 (by omega)
    have h1 := hb 1 (by omega)
    have h2 := hb 2 (by omega)
    have h3 := hb 3 (by omega)
    have h4 := hb 4 (by omega)
    have h5 := hb 5 (by omega)
    have h6 := hb 6 (by omega)
    have h7 := hb 7 (by omega)
    show ((256 * (256 * (256 * (256 * (256 * (256 * (256 * (256 * 0 + b 0) + b 1) + b 2) + b 3) + b 4) + b 5) + b 6) + b 7) = 7102839) ↔ _
    constructor
    · intro h
      exact absurd h (by omega)
    · rintro ⟨h, -⟩
      exact absurd h (by omega)
theorem wrk_1 {tx ty : List Int32} {t s : Nat} (hT : tyR tx ty t) (hs : s ≤ t) : decide (lg_cmp (wrI tx t (tso ty t s) s (tke ty t s - s)) 7102839 = 0) = wdB ty s (skq ty t 97 122 s) 1 := by
  rw [lgc0]
  cases hb : btw ty t s 97 122 with
  | false =>
    rw [skq_eq hs hb, wdB_no (by decide)]
    unfold wrI
    rw [if_neg (fun h => tso_nw hb h.1)]
    decide
  | true =>
    have htk : tke ty t s = skq ty t 97 122 s := by unfold tke; rw [hb]; rfl
    rw [htk, tso_w hb]
    have hgt := skq_gt hb
    have hin : ∀ k, s ≤ k → k < skq ty t 97 122 s → btw ty t k 97 122 = true := fun k h1 h2 => skq_in h1 h2
    generalize skq ty t 97 122 s = e at *
    by_cases h9 : e - s < 9
    · have h0 : ∀ k, ∃ n, k < e - s → 97 ≤ n ∧ n ≤ 122 ∧ bat tx t (s + k) = nI n ∧ gi ty (s + k) = nI n := by
        intro k
        by_cases hk : k < e - s
        · obtain ⟨n, hn⟩ := bat_let hT (hin (s + k) (by omega) (by omega))
          exact ⟨n, fun _ => hn⟩
        · exact ⟨0, fun h => absurd h hk⟩
      obtain ⟨b, hbb⟩ := Classical.axiomOfChoice h0
      have hV : wrI tx t 1 s (e - s) = Int64.ofNat (wrN b (e - s)) := by
        unfold wrI
        rw [if_pos ⟨rfl, h9⟩]
        exact wrV_N (fun k hk => ⟨(hbb k hk).2.2.1, by have := (hbb k hk).2.1; omega⟩)
      have hlt := wrN_lt (b := b) (n := e - s) (fun k hk => by have := (hbb k hk).2.1; omega)
      have hp : 256 ^ (e - s) ≤ 256 ^ 8 := Nat.pow_le_pow_right (by decide) (by omega)
      have hsm : wrN b (e - s) < 2 ^ 63 := by have h64 : (256 : Nat) ^ 8 = 2 ^ 64 := (by decide); omega
      have hEq : (Int64.ofNat (wrN b (e - s)) = (7102839 : Int64)) ↔ wrN b (e - s) = 7102839 := by
        constructor
        · intro h
          have h2 := congrArg Int64.toInt h
          rw [Int64.toInt_ofNat_of_lt hsm] at h2
          have h3 : (7102839 : Int64).toInt = 7102839 := by decide
          omega
        · intro h; rw [h]; rfl
      rw [hV, wd_1, decide_eq_decide.mpr (hEq.trans (wrN_1 h9 (fun k hk => ⟨(hbb k hk).1, (hbb k hk).2.1⟩)))]
      by_cases hn : e - s = 3
      · obtain ⟨-, u0, -, g0⟩ := hbb 0 (by omega)
        obtain ⟨-, u1, -, g1⟩ := hbb 1 (by omega)
        obtain ⟨-, u2, -, g2⟩ := hbb 2 (by omega)
        rw [decide_eq_true hn, Bool.true_and]
        simp only [g0, g1, g2, hn, true_and]
        rw [show decide (nI (b 0) = (108 : Int32)) = decide (b 0 = 108) from decide_eq_decide.mpr (iff_of_eq (nI_ei (b := 108) (by omega) (by omega)))]
        rw [show decide (nI (b 1) = (97 : Int32)) = decide (b 1 = 97) from decide_eq_decide.mpr (iff_of_eq (nI_ei (b := 97) (by omega) (by omega)))]
        rw [show decide (nI (b 2) = (119 : Int32)) = decide (b 2 = 119) from decide_eq_decide.mpr (iff_of_eq (nI_ei (b := 119) (by omega) (by omega)))]
        simp only [Bool.and_true, Bool.decide_and, Bool.and_assoc]
      · rw [decide_eq_false hn, Bool.false_and, decide_eq_false (fun h => hn h.1)]
    · unfold wrI wdB
      rw [if_neg (fun h => h9 h.2), decide_eq_false (show ¬ e - s = jSL.getD 1 0 from by show ¬ e - s = 3; omega), Bool.false_and]
      decide
theorem wrN_2 {b : Nat → Nat} {n : Nat} (hn : n < 9) (hb : ∀ k, k < n → 97 ≤ b k ∧ b k ≤ 122) : (wrN b n = 427071727464) ↔ (n = 5 ∧ b 0 = 99 ∧ b 1 = 111 ∧ b 2 = 117 ∧ b 3 = 103 ∧ b 4 = 104) := by
  match n, hn with
  | 0, _ =>
    show (0 = 427071727464) ↔ _
    constructor
    · intro h
      exact absurd h (by omega)
    · rintro ⟨h, -⟩
      exact absurd h (by omega)
  | 1, _ =>
    have h0 := hb 0 (by omega)
    show ((256 * 0 + b 0) = 427071727464) ↔ _
    constructor
    · intro h
      exact absurd h (by omega)
    · rintro ⟨h, -⟩
      exact absurd h (by omega)
  | 2, _ =>
    have h0 := hb 0 (by omega)
    have h1 := hb 1 (by omega)
    show ((256 * (256 * 0 + b 0) + b 1) = 427071727464) ↔ _
    constructor
    · intro h
      exact absurd h (by omega)
    · rintro ⟨h, -⟩
      exact absurd h (by omega)
  | 3, _ =>
    have h0 := hb 0 (by omega)
    have h1 := hb 1 (by omega)
    have h2 := hb 2 (by omega)
    show ((256 * (256 * (256 * 0 + b 0) + b 1) + b 2) = 427071727464) ↔ _
    constructor
    · intro h
      exact absurd h (by omega)
    · rintro ⟨h, -⟩
      exact absurd h (by omega)
  | 4, _ =>
    have h0 := hb 0 (by omega)
    have h1 := hb 1 (by omega)
    have h2 := hb 2 (by omega)
    have h3 := hb 3 (by omega)
    show ((256 * (256 * (256 * (256 * 0 + b 0) + b 1) + b 2) + b 3) = 427071727464) ↔ _
    constructor
    · intro h
      exact absurd h (by omega)
    · rintro ⟨h, -⟩
      exact absurd h (by omega)
  | 5, _ =>
    have h0 := hb 0 (by omega)
    have h1 := hb 1 (by omega)
    have h2 := hb 2 (by omega)
    have h3 := hb 3 (by omega)
    have h4 := hb 4 (by omega)
    show ((256 * (256 * (256 * (256 * (256 * 0 + b 0) + b 1) + b 2) + b 3) + b 4) = 427071727464) ↔ _
    constructor
    · intro h
      refine ⟨rfl, ?_⟩
      omega
    · rintro ⟨-, h⟩
      omega
  | 6, _ =>
    have h0 := hb 0 (by omega)
    have h1 := hb 1 (by omega)
    have h2 := hb 2 (by omega)
    have h3 := hb 3 (by omega)
    have h4 := hb 4 (by omega)
    have h5 := hb 5 (by omega)
    show ((256 * (256 * (256 * (256 * (256 * (256 * 0 + b 0) + b 1) + b 2) + b 3) + b 4) + b 5) = 427071727464) ↔ _
    constructor
    · intro h
      exact absurd h (by omega)
    · rintro ⟨h, -⟩
      exact absurd h (by omega)
  | 7, _ =>
    have h0 := hb 0 (by omega)
    have h1 := hb 1 (by omega)
    have h2 := hb 2 (by omega)
    have h3 := hb 3 (by omega)
    have h4 := hb 4 (by omega)
    have h5 := hb 5 (by omega)
    have h6 := hb 6 (by omega)
    show ((256 * (256 * (256 * (256 * (256 * (256 * (256 * 0 + b 0) + b 1) + b 2) + b 3) + b 4) + b 5) + b 6) = 427071727464) ↔ _
    constructor
    · intro h
      exact absurd h (by omega)
    · rintro ⟨h, -⟩
      exact absurd h (by omega)
  | 8, _ =>
    have h0 := hb 0 (by omega)
    have h1 := hb 1 (by omega)
    have h2 := hb 2 (by omega)
    have h3 := hb 3 (by omega)
    have h4 := hb 4 (by omega)
    have h5 := hb 5 (by omega)
    have h6 := hb 6 (by omega)
    have h7 := hb 7 (by omega)
    show ((256 * (256 * (256 * (256 * (256 * (256 * (256 * (256 * 0 + b 0) + b 1) + b 2) + b 3) + b 4) + b 5) + b 6) + b 7) = 427071727464) ↔ _
    constructor
    · intro h
      exact absurd h (by omega)
    · rintro ⟨h, -⟩
      exact absurd h (by omega)
theorem wrk_2 {tx ty : List Int32} {t s : Nat} (hT : tyR tx ty t) (hs : s ≤ t) : decide (lg_cmp (wrI tx t (tso ty t s) s (tke ty t s - s)) 427071727464 = 0) = wdB ty s (skq ty t 97 122 s) 2 := by
  rw [lgc0]
  cases hb : btw ty t s 97 122 with
  | false =>
    rw [skq_eq hs hb, wdB_no (by decide)]
    unfold wrI
    rw [if_neg (fun h => tso_nw hb h.1)]
    decide
  | true =>
    have htk : tke ty t s = skq ty t 97 122 s := by unfold tke; rw [hb]; rfl
    rw [htk, tso_w hb]
    have hgt := skq_gt hb
    have hin : ∀ k, s ≤ k → k < skq ty t 97 122 s → btw ty t k 97 122 = true := fun k h1 h2 => skq_in h1 h2
    generalize skq ty t 97 122 s = e at *
    by_cases h9 : e - s < 9
    · have h0 : ∀ k, ∃ n, k < e - s → 97 ≤ n ∧ n ≤ 122 ∧ bat tx t (s + k) = nI n ∧ gi ty (s + k) = nI n := by
        intro k
        by_cases hk : k < e - s
        · obtain ⟨n, hn⟩ := bat_let hT (hin (s + k) (by omega) (by omega))
          exact ⟨n, fun _ => hn⟩
        · exact ⟨0, fun h => absurd h hk⟩
      obtain ⟨b, hbb⟩ := Classical.axiomOfChoice h0
      have hV : wrI tx t 1 s (e - s) = Int64.ofNat (wrN b (e - s)) := by
        unfold wrI
        rw [if_pos ⟨rfl, h9⟩]
        exact wrV_N (fun k hk => ⟨(hbb k hk).2.2.1, by have := (hbb k hk).2.1; omega⟩)
      have hlt := wrN_lt (b := b) (n := e - s) (fun k hk => by have := (hbb k hk).2.1; omega)
      have hp : 256 ^ (e - s) ≤ 256 ^ 8 := Nat.pow_le_pow_right (by decide) (by omega)
      have hsm : wrN b (e - s) < 2 ^ 63 := by have h64 : (256 : Nat) ^ 8 = 2 ^ 64 := (by decide); omega
      have hEq : (Int64.ofNat (wrN b (e - s)) = (427071727464 : Int64)) ↔ wrN b (e - s) = 427071727464 := by
        constructor
        · intro h
          have h2 := congrArg Int64.toInt h
          rw [Int64.toInt_ofNat_of_lt hsm] at h2
          have h3 : (427071727464 : Int64).toInt = 427071727464 := by decide
          omega
        · intro h; rw [h]; rfl
      rw [hV, wd_2, decide_eq_decide.mpr (hEq.trans (wrN_2 h9 (fun k hk => ⟨(hbb k hk).1, (hbb k hk).2.1⟩)))]
      by_cases hn : e - s = 5
      · obtain ⟨-, u0, -, g0⟩ := hbb 0 (by omega)
        obtain ⟨-, u1, -, g1⟩ := hbb 1 (by omega)
        obtain ⟨-, u2, -, g2⟩ := hbb 2 (by omega)
        obtain ⟨-, u3, -, g3⟩ := hbb 3 (by omega)
        obtain ⟨-, u4, -, g4⟩ := hbb 4 (by omega)
        rw [decide_eq_true hn, Bool.true_and]
        simp only [g0, g1, g2, g3, g4, hn, true_and]
        rw [show decide (nI (b 0) = (99 : Int32)) = decide (b 0 = 99) from decide_eq_decide.mpr (iff_of_eq (nI_ei (b := 99) (by omega) (by omega)))]
        rw [show decide (nI (b 1) = (111 : Int32)) = decide (b 1 = 111) from decide_eq_decide.mpr (iff_of_eq (nI_ei (b := 111) (by omega) (by omega)))]
        rw [show decide (nI (b 2) = (117 : Int32)) = decide (b 2 = 117) from decide_eq_decide.mpr (iff_of_eq (nI_ei (b := 117) (by omega) (by omega)))]
        rw [show decide (nI (b 3) = (103 : Int32)) = decide (b 3 = 103) from decide_eq_decide.mpr (iff_of_eq (nI_ei (b := 103) (by omega) (by omega)))]
        rw [show decide (nI (b 4) = (104 : Int32)) = decide (b 4 = 104) from decide_eq_decide.mpr (iff_of_eq (nI_ei (b := 104) (by omega) (by omega)))]
        simp only [Bool.and_true, Bool.decide_and, Bool.and_assoc]
      · rw [decide_eq_false hn, Bool.false_and, decide_eq_false (fun h => hn h.1)]
    · unfold wrI wdB
      rw [if_neg (fun h => h9 h.2), decide_eq_false (show ¬ e - s = jSL.getD 2 0 from by show ¬ e - s = 5; omega), Bool.false_and]
      decide
theorem wrN_3 {b : Nat → Nat} {n : Nat} (hn : n < 9) (hb : ∀ k, k < n → 97 ≤ b k ∧ b k ≤ 122) : (wrN b n = 32497644298331492) ↔ (n = 7 ∧ b 0 = 115 ∧ b 1 = 116 ∧ b 2 = 111 ∧ b 3 = 112 ∧ b 4 = 112 ∧ b 5 = 101 ∧ b 6 = 100) := by
  match n, hn with
  | 0, _ =>
    show (0 = 32497644298331492) ↔ _
    constructor
    · intro h
      exact absurd h (by omega)
    · rintro ⟨h, -⟩
      exact absurd h (by omega)
  | 1, _ =>
    have h0 := hb 0 (by omega)
    show ((256 * 0 + b 0) = 32497644298331492) ↔ _
    constructor
    · intro h
      exact absurd h (by omega)
    · rintro ⟨h, -⟩
      exact absurd h (by omega)
  | 2, _ =>
    have h0 := hb 0 (by omega)
    have h1 := hb 1 (by omega)
    show ((256 * (256 * 0 + b 0) + b 1) = 32497644298331492) ↔ _
    constructor
    · intro h
      exact absurd h (by omega)
    · rintro ⟨h, -⟩
      exact absurd h (by omega)
  | 3, _ =>
    have h0 := hb 0 (by omega)
    have h1 := hb 1 (by omega)
    have h2 := hb 2 (by omega)
    show ((256 * (256 * (256 * 0 + b 0) + b 1) + b 2) = 32497644298331492) ↔ _
    constructor
    · intro h
      exact absurd h (by omega)
    · rintro ⟨h, -⟩
      exact absurd h (by omega)
  | 4, _ =>
    have h0 := hb 0 (by omega)
    have h1 := hb 1 (by omega)
    have h2 := hb 2 (by omega)
    have h3 := hb 3 (by omega)
    show ((256 * (256 * (256 * (256 * 0 + b 0) + b 1) + b 2) + b 3) = 32497644298331492) ↔ _
    constructor
    · intro h
      exact absurd h (by omega)
    · rintro ⟨h, -⟩
      exact absurd h (by omega)
  | 5, _ =>
    have h0 := hb 0 (by omega)
    have h1 := hb 1 (by omega)
    have h2 := hb 2 (by omega)
    have h3 := hb 3 (by omega)
    have h4 := hb 4 (by omega)
    show ((256 * (256 * (256 * (256 * (256 * 0 + b 0) + b 1) + b 2) + b 3) + b 4) = 32497644298331492) ↔ _
    constructor
    · intro h
      exact absurd h (by omega)
    · rintro ⟨h, -⟩
      exact absurd h (by omega)
  | 6, _ =>
    have h0 := hb 0 (by omega)
    have h1 := hb 1 (by omega)
    have h2 := hb 2 (by omega)
    have h3 := hb 3 (by omega)
    have h4 := hb 4 (by omega)
    have h5 := hb 5 (by omega)
    show ((256 * (256 * (256 * (256 * (256 * (256 * 0 + b 0) + b 1) + b 2) + b 3) + b 4) + b 5) = 32497644298331492) ↔ _
    constructor
    · intro h
      exact absurd h (by omega)
    · rintro ⟨h, -⟩
      exact absurd h (by omega)
  | 7, _ =>
    have h0 := hb 0 (by omega)
    have h1 := hb 1 (by omega)
    have h2 := hb 2 (by omega)
    have h3 := hb 3 (by omega)
    have h4 := hb 4 (by omega)
    have h5 := hb 5 (by omega)
    have h6 := hb 6 (by omega)
    show ((256 * (256 * (256 * (256 * (256 * (256 * (256 * 0 + b 0) + b 1) + b 2) + b 3) + b 4) + b 5) + b 6) = 32497644298331492) ↔ _
    constructor
    · intro h
      refine ⟨rfl, ?_⟩
      omega
    · rintro ⟨-, h⟩
      omega
  | 8, _ =>
    have h0 := hb 0 (by omega)
    have h1 := hb 1 (by omega)
    have h2 := hb 2 (by omega)
    have h3 := hb 3 (by omega)
    have h4 := hb 4 (by omega)
    have h5 := hb 5 (by omega)
    have h6 := hb 6 (by omega)
    have h7 := hb 7 (by omega)
    show ((256 * (256 * (256 * (256 * (256 * (256 * (256 * (256 * 0 + b 0) + b 1) + b 2) + b 3) + b 4) + b 5) + b 6) + b 7) = 32497644298331492) ↔ _
    constructor
    · intro h
      exact absurd h (by omega)
    · rintro ⟨h, -⟩
      exact absurd h (by omega)
theorem wrk_3 {tx ty : List Int32} {t s : Nat} (hT : tyR tx ty t) (hs : s ≤ t) : decide (lg_cmp (wrI tx t (tso ty t s) s (tke ty t s - s)) 32497644298331492 = 0) = wdB ty s (skq ty t 97 122 s) 3 := by
  rw [lgc0]
  cases hb : btw ty t s 97 122 with
  | false =>
    rw [skq_eq hs hb, wdB_no (by decide)]
    unfold wrI
    rw [if_neg (fun h => tso_nw hb h.1)]
    decide
  | true =>
    have htk : tke ty t s = skq ty t 97 122 s := by unfold tke; rw [hb]; rfl
    rw [htk, tso_w hb]
    have hgt := skq_gt hb
    have hin : ∀ k, s ≤ k → k < skq ty t 97 122 s → btw ty t k 97 122 = true := fun k h1 h2 => skq_in h1 h2
    generalize skq ty t 97 122 s = e at *
    by_cases h9 : e - s < 9
    · have h0 : ∀ k, ∃ n, k < e - s → 97 ≤ n ∧ n ≤ 122 ∧ bat tx t (s + k) = nI n ∧ gi ty (s + k) = nI n := by
        intro k
        by_cases hk : k < e - s
        · obtain ⟨n, hn⟩ := bat_let hT (hin (s + k) (by omega) (by omega))
          exact ⟨n, fun _ => hn⟩
        · exact ⟨0, fun h => absurd h hk⟩
      obtain ⟨b, hbb⟩ := Classical.axiomOfChoice h0
      have hV : wrI tx t 1 s (e - s) = Int64.ofNat (wrN b (e - s)) := by
        unfold wrI
        rw [if_pos ⟨rfl, h9⟩]
        exact wrV_N (fun k hk => ⟨(hbb k hk).2.2.1, by have := (hbb k hk).2.1; omega⟩)
      have hlt := wrN_lt (b := b) (n := e - s) (fun k hk => by have := (hbb k hk).2.1; omega)
      have hp : 256 ^ (e - s) ≤ 256 ^ 8 := Nat.pow_le_pow_right (by decide) (by omega)
      have hsm : wrN b (e - s) < 2 ^ 63 := by have h64 : (256 : Nat) ^ 8 = 2 ^ 64 := (by decide); omega
      have hEq : (Int64.ofNat (wrN b (e - s)) = (32497644298331492 : Int64)) ↔ wrN b (e - s) = 32497644298331492 := by
        constructor
        · intro h
          have h2 := congrArg Int64.toInt h
          rw [Int64.toInt_ofNat_of_lt hsm] at h2
          have h3 : (32497644298331492 : Int64).toInt = 32497644298331492 := by decide
          omega
        · intro h; rw [h]; rfl
      rw [hV, wd_3, decide_eq_decide.mpr (hEq.trans (wrN_3 h9 (fun k hk => ⟨(hbb k hk).1, (hbb k hk).2.1⟩)))]
      by_cases hn : e - s = 7
      · obtain ⟨-, u0, -, g0⟩ := hbb 0 (by omega)
        obtain ⟨-, u1, -, g1⟩ := hbb 1 (by omega)
        obtain ⟨-, u2, -, g2⟩ := hbb 2 (by omega)
        obtain ⟨-, u3, -, g3⟩ := hbb 3 (by omega)
        obtain ⟨-, u4, -, g4⟩ := hbb 4 (by omega)
        obtain ⟨-, u5, -, g5⟩ := hbb 5 (by omega)
        obtain ⟨-, u6, -, g6⟩ := hbb 6 (by omega)
        rw [decide_eq_true hn, Bool.true_and]
        simp only [g0, g1, g2, g3, g4, g5, g6, hn, true_and]
        rw [show decide (nI (b 0) = (115 : Int32)) = decide (b 0 = 115) from decide_eq_decide.mpr (iff_of_eq (nI_ei (b := 115) (by omega) (by omega)))]
        rw [show decide (nI (b 1) = (116 : Int32)) = decide (b 1 = 116) from decide_eq_decide.mpr (iff_of_eq (nI_ei (b := 116) (by omega) (by omega)))]
        rw [show decide (nI (b 2) = (111 : Int32)) = decide (b 2 = 111) from decide_eq_decide.mpr (iff_of_eq (nI_ei (b := 111) (by omega) (by omega)))]
        rw [show decide (nI (b 3) = (112 : Int32)) = decide (b 3 = 112) from decide_eq_decide.mpr (iff_of_eq (nI_ei (b := 112) (by omega) (by omega)))]
        rw [show decide (nI (b 4) = (112 : Int32)) = decide (b 4 = 112) from decide_eq_decide.mpr (iff_of_eq (nI_ei (b := 112) (by omega) (by omega)))]
        rw [show decide (nI (b 5) = (101 : Int32)) = decide (b 5 = 101) from decide_eq_decide.mpr (iff_of_eq (nI_ei (b := 101) (by omega) (by omega)))]
        rw [show decide (nI (b 6) = (100 : Int32)) = decide (b 6 = 100) from decide_eq_decide.mpr (iff_of_eq (nI_ei (b := 100) (by omega) (by omega)))]
        simp only [Bool.and_true, Bool.decide_and, Bool.and_assoc]
      · rw [decide_eq_false hn, Bool.false_and, decide_eq_false (fun h => hn h.1)]
    · unfold wrI wdB
      rw [if_neg (fun h => h9 h.2), decide_eq_false (show ¬ e - s = jSL.getD 3 0 from by show ¬ e - s = 7; omega), Bool.false_and]
      decide
theorem wrN_4 {b : Nat → Nat} {n : Nat} (hn : n < 9) (hb : ∀ k, k < n → 97 ≤ b k ∧ b k ≤ 122) : (wrN b n = 422608068974) ↔ (n = 5 ∧ b 0 = 98 ∧ b 1 = 101 ∧ b 2 = 103 ∧ b 3 = 97 ∧ b 4 = 110) := by
  match n, hn with
  | 0, _ =>
    show (0 = 422608068974) ↔ _
    constructor
    · intro h
      exact absurd h (by omega)
    · rintro ⟨h, -⟩
      exact absurd h (by omega)
  | 1, _ =>
    have h0 := hb 0 (by omega)
    show ((256 * 0 + b 0) = 422608068974) ↔ _
    constructor
    · intro h
      exact absurd h (by omega)
    · rintro ⟨h, -⟩
      exact absurd h (by omega)
  | 2, _ =>
    have h0 := hb 0 (by omega)
    have h1 := hb 1 (by omega)
    show ((256 * (256 * 0 + b 0) + b 1) = 422608068974) ↔ _
    constructor
    · intro h
      exact absurd h (by omega)
    · rintro ⟨h, -⟩
      exact absurd h (by omega)
  | 3, _ =>
    have h0 := hb 0 (by omega)
    have h1 := hb 1 (by omega)
    have h2 := hb 2 (by omega)
    show ((256 * (256 * (256 * 0 + b 0) + b 1) + b 2) = 422608068974) ↔ _
    constructor
    · intro h
      exact absurd h (by omega)
    · rintro ⟨h, -⟩
      exact absurd h (by omega)
  | 4, _ =>
    have h0 := hb 0 (by omega)
    have h1 := hb 1 (by omega)
    have h2 := hb 2 (by omega)
    have h3 := hb 3 (by omega)
    show ((256 * (256 * (256 * (256 * 0 + b 0) + b 1) + b 2) + b 3) = 422608068974) ↔ _
    constructor
    · intro h
      exact absurd h (by omega)
    · rintro ⟨h, -⟩
      exact absurd h (by omega)
  | 5, _ =>
    have h0 := hb 0 (by omega)
    have h1 := hb 1 (by omega)
    have h2 := hb 2 (by omega)
    have h3 := hb 3 (by omega)
    have h4 := hb 4 (by omega)
    show ((256 * (256 * (256 * (256 * (256 * 0 + b 0) + b 1) + b 2) + b 3) + b 4) = 422608068974) ↔ _
    constructor
    · intro h
      refine ⟨rfl, ?_⟩
      omega
    · rintro ⟨-, h⟩
      omega
  | 6, _ =>
    have h0 := hb 0 (by omega)
    have h1 := hb 1 (by omega)
    have h2 := hb 2 (by omega)
    have h3 := hb 3 (by omega)
    have h4 := hb 4 (by omega)
    have h5 := hb 5 (by omega)
    show ((256 * (256 * (256 * (256 * (256 * (256 * 0 + b 0) + b 1) + b 2) + b 3) + b 4) + b 5) = 422608068974) ↔ _
    constructor
    · intro h
      exact absurd h (by omega)
    · rintro ⟨h, -⟩
      exact absurd h (by omega)
  | 7, _ =>
    have h0 := hb 0 (by omega)
    have h1 := hb 1 (by omega)
    have h2 := hb 2 (by omega)
    have h3 := hb 3 (by omega)
    have h4 := hb 4 (by omega)
    have h5 := hb 5 (by omega)
    have h6 := hb 6 (by omega)
    show ((256 * (256 * (256 * (256 * (256 * (256 * (256 * 0 + b 0) + b 1) + b 2) + b 3) + b 4) + b 5) + b 6) = 422608068974) ↔ _
    constructor
    · intro h
      exact absurd h (by omega)
    · rintro ⟨h, -⟩
      exact absurd h (by omega)
  | 8, _ =>
    have h0 := hb 0 (by omega)
    have h1 := hb 1 (by omega)
    have h2 := hb 2 (by omega)
    have h3 := hb 3 (by omega)
    have h4 := hb 4 (by omega)
    have h5 := hb 5 (by omega)
    have h6 := hb 6 (by omega)
    have h7 := hb 7 (by omega)
    show ((256 * (256 * (256 * (256 * (256 * (256 * (256 * (256 * 0 + b 0) + b 1) + b 2) + b 3) + b 4) + b 5) + b 6) + b 7) = 422608068974) ↔ _
    constructor
    · intro h
      exact absurd h (by omega)
    · rintro ⟨h, -⟩
      exact absurd h (by omega)
theorem wrk_4 {tx ty : List Int32} {t s : Nat} (hT : tyR tx ty t) (hs : s ≤ t) : decide (lg_cmp (wrI tx t (tso ty t s) s (tke ty t s - s)) 422608068974 = 0) = wdB ty s (skq ty t 97 122 s) 4 := by
  rw [lgc0]
  cases hb : btw ty t s 97 122 with
  | false =>
    rw [skq_eq hs hb, wdB_no (by decide)]
    unfold wrI
    rw [if_neg (fun h => tso_nw hb h.1)]
    decide
  | true =>
    have htk : tke ty t s = skq ty t 97 122 s := by unfold tke; rw [hb]; rfl
    rw [htk, tso_w hb]
    have hgt := skq_gt hb
    have hin : ∀ k, s ≤ k → k < skq ty t 97 122 s → btw ty t k 97 122 = true := fun k h1 h2 => skq_in h1 h2
    generalize skq ty t 97 122 s = e at *
    by_cases h9 : e - s < 9
    · have h0 : ∀ k, ∃ n, k < e - s → 97 ≤ n ∧ n ≤ 122 ∧ bat tx t (s + k) = nI n ∧ gi ty (s + k) = nI n := by
        intro k
        by_cases hk : k < e - s
        · obtain ⟨n, hn⟩ := bat_let hT (hin (s + k) (by omega) (by omega))
          exact ⟨n, fun _ => hn⟩
        · exact ⟨0, fun h => absurd h hk⟩
      obtain ⟨b, hbb⟩ := Classical.axiomOfChoice h0
      have hV : wrI tx t 1 s (e - s) = Int64.ofNat (wrN b (e - s)) := by
        unfold wrI
        rw [if_pos ⟨rfl, h9⟩]
        exact wrV_N (fun k hk => ⟨(hbb k hk).2.2.1, by have := (hbb k hk).2.1; omega⟩)
      have hlt := wrN_lt (b := b) (n := e - s) (fun k hk => by have := (hbb k hk).2.1; omega)
      have hp : 256 ^ (e - s) ≤ 256 ^ 8 := Nat.pow_le_pow_right (by decide) (by omega)
      have hsm : wrN b (e - s) < 2 ^ 63 := by have h64 : (256 : Nat) ^ 8 = 2 ^ 64 := (by decide); omega
      have hEq : (Int64.ofNat (wrN b (e - s)) = (422608068974 : Int64)) ↔ wrN b (e - s) = 422608068974 := by
        constructor
        · intro h
          have h2 := congrArg Int64.toInt h
          rw [Int64.toInt_ofNat_of_lt hsm] at h2
          have h3 : (422608068974 : Int64).toInt = 422608068974 := by decide
          omega
        · intro h; rw [h]; rfl
      rw [hV, wd_4, decide_eq_decide.mpr (hEq.trans (wrN_4 h9 (fun k hk => ⟨(hbb k hk).1, (hbb k hk).2.1⟩)))]
      by_cases hn : e - s = 5
      · obtain ⟨-, u0, -, g0⟩ := hbb 0 (by omega)
        obtain ⟨-, u1, -, g1⟩ := hbb 1 (by omega)
        obtain ⟨-, u2, -, g2⟩ := hbb 2 (by omega)
        obtain ⟨-, u3, -, g3⟩ := hbb 3 (by omega)
        obtain ⟨-, u4, -, g4⟩ := hbb 4 (by omega)
        rw [decide_eq_true hn, Bool.true_and]
        simp only [g0, g1, g2, g3, g4, hn, true_and]
        rw [show decide (nI (b 0) = (98 : Int32)) = decide (b 0 = 98) from decide_eq_decide.mpr (iff_of_eq (nI_ei (b := 98) (by omega) (by omega)))]
        rw [show decide (nI (b 1) = (101 : Int32)) = decide (b 1 = 101) from decide_eq_decide.mpr (iff_of_eq (nI_ei (b := 101) (by omega) (by omega)))]
        rw [show decide (nI (b 2) = (103 : Int32)) = decide (b 2 = 103) from decide_eq_decide.mpr (iff_of_eq (nI_ei (b := 103) (by omega) (by omega)))]
        rw [show decide (nI (b 3) = (97 : Int32)) = decide (b 3 = 97) from decide_eq_decide.mpr (iff_of_eq (nI_ei (b := 97) (by omega) (by omega)))]
        rw [show decide (nI (b 4) = (110 : Int32)) = decide (b 4 = 110) from decide_eq_decide.mpr (iff_of_eq (nI_ei (b := 110) (by omega) (by omega)))]
        simp only [Bool.and_true, Bool.decide_and, Bool.and_assoc]
      · rw [decide_eq_false hn, Bool.false_and, decide_eq_false (fun h => hn h.1)]
    · unfold wrI wdB
      rw [if_neg (fun h => h9 h.2), decide_eq_false (show ¬ e - s = jSL.getD 4 0 from by show ¬ e - s = 5; omega), Bool.false_and]
      decide
theorem wrN_5 {b : Nat → Nat} {n : Nat} (hn : n < 9) (hb : ∀ k, k < n → 97 ≤ b k ∧ b k ≤ 122) : (wrN b n = 6384748) ↔ (n = 3 ∧ b 0 = 97 ∧ b 1 = 108 ∧ b 2 = 108) := by
  match n, hn with
  | 0, _ =>
    show (0 = 6384748) ↔ _
    constructor
    · intro h
      exact absurd h (by omega)
    · rintro ⟨h, -⟩
      exact absurd h (by omega)
  | 1, _ =>
    have h0 := hb 0 (by omega)
    show ((256 * 0 + b 0) = 6384748) ↔ _
    constructor
    · intro h
      exact absurd h (by omega)
    · rintro ⟨h, -⟩
      exact absurd h (by omega)
  | 2, _ =>
    have h0 := hb 0 (by omega)
    have h1 := hb 1 (by omega)
    show ((256 * (256 * 0 + b 0) + b 1) = 6384748) ↔ _
    constructor
    · intro h
      exact absurd h (by omega)
    · rintro ⟨h, -⟩
      exact absurd h (by omega)
  | 3, _ =>
    have h0 := hb 0 (by omega)
    have h1 := hb 1 (by omega)
    have h2 := hb 2 (by omega)
    show ((256 * (256 * (256 * 0 + b 0) + b 1) + b 2) = 6384748) ↔ _
    constructor
    · intro h
      refine ⟨rfl, ?_⟩
      omega
    · rintro ⟨-, h⟩
      omega
  | 4, _ =>
    have h0 := hb 0 (by omega)
    have h1 := hb 1 (by omega)
    have h2 := hb 2 (by omega)
    have h3 := hb 3 (by omega)
    show ((256 * (256 * (256 * (256 * 0 + b 0) + b 1) + b 2) + b 3) = 6384748) ↔ _
    constructor
    · intro h
      exact absurd h (by omega)
    · rintro ⟨h, -⟩
      exact absurd h (by omega)
  | 5, _ =>
    have h0 := hb 0 (by omega)
    have h1 := hb 1 (by omega)
    have h2 := hb 2 (by omega)
    have h3 := hb 3 (by omega)
    have h4 := hb 4 (by omega)
    show ((256 * (256 * (256 * (256 * (256 * 0 + b 0) + b 1) + b 2) + b 3) + b 4) = 6384748) ↔ _
    constructor
    · intro h
      exact absurd h (by omega)
    · rintro ⟨h, -⟩
      exact absurd h (by omega)
  | 6, _ =>
    have h0 := hb 0 (by omega)
    have h1 := hb 1 (by omega)
    have h2 := hb 2 (by omega)
    have h3 := hb 3 (by omega)
    have h4 := hb 4 (by omega)
    have h5 := hb 5 (by omega)
    show ((256 * (256 * (256 * (256 * (256 * (256 * 0 + b 0) + b 1) + b 2) + b 3) + b 4) + b 5) = 6384748) ↔ _
    constructor
    · intro h
      exact absurd h (by omega)
    · rintro ⟨h, -⟩
      exact absurd h (by omega)
  | 7, _ =>
    have h0 := hb 0 (by omega)
    have h1 := hb 1 (by omega)
    have h2 := hb 2 (by omega)
    have h3 := hb 3 (by omega)
    have h4 := hb 4 (by omega)
    have h5 := hb 5 (by omega)
    have h6 := hb 6 (by omega)
    show ((256 * (256 * (256 * (256 * (256 * (256 * (256 * 0 + b 0) + b 1) + b 2) + b 3) + b 4) + b 5) + b 6) = 6384748) ↔ _
    constructor
    · intro h
      exact absurd h (by omega)
    · rintro ⟨h, -⟩
      exact absurd h (by omega)
  | 8, _ =>
    have h0 := hb 0 (by omega)
    have h1 := hb 1 (by omega)
    have h2 := hb 2 (by omega)
    have h3 := hb 3 (by omega)
    have h4 := hb 4 (by omega)
    have h5 := hb 5 (by omega)
    have h6 := hb 6 (by omega)
    have h7 := hb 7 (by omega)
    show ((256 * (256 * (256 * (256 * (256 * (256 * (256 * (256 * 0 + b 0) + b 1) + b 2) + b 3) + b 4) + b 5) + b 6) + b 7) = 6384748) ↔ _
    constructor
    · intro h
      exact absurd h (by omega)
    · rintro ⟨h, -⟩
      exact absurd h (by omega)
theorem wrk_5 {tx ty : List Int32} {t s : Nat} (hT : tyR tx ty t) (hs : s ≤ t) : decide (lg_cmp (wrI tx t (tso ty t s) s (tke ty t s - s)) 6384748 = 0) = wdB ty s (skq ty t 97 122 s) 5 := by
  rw [lgc0]
  cases hb : btw ty t s 97 122 with
  | false =>
    rw [skq_eq hs hb, wdB_no (by decide)]
    unfold wrI
    rw [if_neg (fun h => tso_nw hb h.1)]
    decide
  | true =>
    have htk : tke ty t s = skq ty t 97 122 s := by unfold tke; rw [hb]; rfl
    rw [htk, tso_w hb]
    have hgt := skq_gt hb
    have hin : ∀ k, s ≤ k → k < skq ty t 97 122 s → btw ty t k 97 122 = true := fun k h1 h2 => skq_in h1 h2
    generalize skq ty t 97 122 s = e at *
    by_cases h9 : e - s < 9
    · have h0 : ∀ k, ∃ n, k < e - s → 97 ≤ n ∧ n ≤ 122 ∧ bat tx t (s + k) = nI n ∧ gi ty (s + k) = nI n := by
        intro k
        by_cases hk : k < e - s
        · obtain ⟨n, hn⟩ := bat_let hT (hin (s + k) (by omega) (by omega))
          exact ⟨n, fun _ => hn⟩
        · exact ⟨0, fun h => absurd h hk⟩
      obtain ⟨b, hbb⟩ := Classical.axiomOfChoice h0
      have hV : wrI tx t 1 s (e - s) = Int64.ofNat (wrN b (e - s)) := by
        unfold wrI
        rw [if_pos ⟨rfl, h9⟩]
        exact wrV_N (fun k hk => ⟨(hbb k hk).2.2.1, by have := (hbb k hk).2.1; omega⟩)
      have hlt := wrN_lt (b := b) (n := e - s) (fun k hk => by have := (hbb k hk).2.1; omega)
      have hp : 256 ^ (e - s) ≤ 256 ^ 8 := Nat.pow_le_pow_right (by decide) (by omega)
      have hsm : wrN b (e - s) < 2 ^ 63 := by have h64 : (256 : Nat) ^ 8 = 2 ^ 64 := (by decide); omega
      have hEq : (Int64.ofNat (wrN b (e - s)) = (6384748 : Int64)) ↔ wrN b (e - s) = 6384748 := by
        constructor
        · intro h
          have h2 := congrArg Int64.toInt h
          rw [Int64.toInt_ofNat_of_lt hsm] at h2
          have h3 : (6384748 : Int64).toInt = 6384748 := by decide
          omega
        · intro h; rw [h]; rfl
      rw [hV, wd_5, decide_eq_decide.mpr (hEq.trans (wrN_5 h9 (fun k hk => ⟨(hbb k hk).1, (hbb k hk).2.1⟩)))]
      by_cases hn : e - s = 3
      · obtain ⟨-, u0, -, g0⟩ := hbb 0 (by omega)
        obtain ⟨-, u1, -, g1⟩ := hbb 1 (by omega)
        obtain ⟨-, u2, -, g2⟩ := hbb 2 (by omega)
        rw [decide_eq_true hn, Bool.true_and]
        simp only [g0, g1, g2, hn, true_and]
        rw [show decide (nI (b 0) = (97 : Int32)) = decide (b 0 = 97) from decide_eq_decide.mpr (iff_of_eq (nI_ei (b := 97) (by omega) (by omega)))]
        rw [show decide (nI (b 1) = (108 : Int32)) = decide (b 1 = 108) from decide_eq_decide.mpr (iff_of_eq (nI_ei (b := 108) (by omega) (by omega)))]
        rw [show decide (nI (b 2) = (108 : Int32)) = decide (b 2 = 108) from decide_eq_decide.mpr (iff_of_eq (nI_ei (b := 108) (by omega) (by omega)))]
        simp only [Bool.and_true, Bool.decide_and, Bool.and_assoc]
      · rw [decide_eq_false hn, Bool.false_and, decide_eq_false (fun h => hn h.1)]
    · unfold wrI wdB
      rw [if_neg (fun h => h9 h.2), decide_eq_false (show ¬ e - s = jSL.getD 5 0 from by show ¬ e - s = 3; omega), Bool.false_and]
      decide
section
variable {ty : List Int32} {t a : Nat} {lo hi pl : Int32} {q : Nat × Int32 × Int32}
theorem rnS_ok (hc : rnC (rnv ty t a) lo hi (skq ty t 32 32 a) (skq ty t 48 57 (skq ty t 32 32 a)) = 0) : rnS ty t lo hi (a, pl, 0) = (skq ty t 48 57 (skq ty t 32 32 a), pl, 0) := by
  show blS (rnC (rnv ty t a) lo hi (skq ty t 32 32 a) (skq ty t 48 57 (skq ty t 32 32 a))) (skq ty t 32 32 a) (skq ty t 48 57 (skq ty t 32 32 a), pl, 0) = _
  rw [hc]
  show (skq ty t 48 57 (skq ty t 32 32 a), bP 0 0 pl (nI (skq ty t 32 32 a)), bF 0 0) = _
  rw [bP_0, bF_0]
theorem blS_bad {c : Int32} {p x : Nat} (hc : ¬ c = 0) : (blS c p (x, pl, 0)).2 = (nI p, c) := by
  show (bP 0 c pl (nI p), bF 0 c) = _
  unfold bP bF
  rw [if_pos rfl, if_pos rfl, if_neg hc]
theorem rnS_bad (hc : ¬ rnC (rnv ty t a) lo hi (skq ty t 32 32 a) (skq ty t 48 57 (skq ty t 32 32 a)) = 0) : (rnS ty t lo hi (a, pl, 0)).2 = (nI (skq ty t 32 32 a), rnC (rnv ty t a) lo hi (skq ty t 32 32 a) (skq ty t 48 57 (skq ty t 32 32 a))) := blS_bad hc
theorem reS_ok (h : tso ty t (skq ty t 32 32 a) = 3) : reS ty t (a, pl, 0) = (tke ty t (skq ty t 32 32 a), pl, 0) := by
  have h1 : btw ty t (skq ty t 32 32 a) 59 59 = true := tso_3 h
  unfold reS tke
  dsimp only
  rw [h1, btw_dis (lo' := 97) (hi' := 122) h1 (by decide), btw_dis2 (lo' := 48) (hi' := 57) h1 (by decide), decide_eq_true (btw_lt h1)]
  rfl
theorem reS_bad (h : ¬ tso ty t (skq ty t 32 32 a) = 3) : (reS ty t (a, pl, 0)).2 = (nI (skq ty t 32 32 a), 1) := by
  have h1 : btw ty t (skq ty t 32 32 a) 59 59 = false := tso_n3 h
  unfold reS
  dsimp only
  rw [h1]
  exact blS_bad (by decide)
theorem kp_b {c c' p : Int32} {x : Nat} (h : q.2 = (p, c)) (hc : ¬ c = 0) : (blS c' x q).2 = (p, c) := by
  show (bP q.2.2 c' q.2.1 (nI x), bF q.2.2 c') = _
  rw [h]
  unfold bP bF
  rw [if_neg hc, if_neg hc]
theorem kp_r {c p : Int32} (h : q.2 = (p, c)) (hc : ¬ c = 0) : (rnS ty t lo hi q).2 = (p, c) := kp_b (q := (skq ty t 48 57 (skq ty t 32 32 q.1), q.2)) h hc
theorem kp_e {c p : Int32} (h : q.2 = (p, c)) (hc : ¬ c = 0) : (reS ty t q).2 = (p, c) := by
  unfold reS
  cases btw ty t (skq ty t 32 32 q.1) 59 59
  · exact kp_b (q := (skq ty t 32 32 q.1, q.2)) h hc
  · exact h
theorem kp_k {c p : Int32} (h : q.2 = (p, c)) (hc : ¬ c = 0) : (rkS ty t q).2 = (p, c) := by
  unfold rkS
  cases kdB ty (skq ty t 32 32 q.1) (skq ty t 97 122 (skq ty t 32 32 q.1))
  · exact kp_b (q := (skq ty t 97 122 (skq ty t 32 32 q.1), q.2)) h hc
  · exact h
theorem rkS_ok (h : kdB ty (skq ty t 32 32 a) (skq ty t 97 122 (skq ty t 32 32 a)) = true) : rkS ty t (a, pl, 0) = (skq ty t 97 122 (skq ty t 32 32 a), pl, 0) := by
  unfold rkS
  dsimp only
  rw [h]
  rfl
theorem rkS_bad (h : kdB ty (skq ty t 32 32 a) (skq ty t 97 122 (skq ty t 32 32 a)) = false) : (rkS ty t (a, pl, 0)).2 = (nI (skq ty t 32 32 a), 1) := by
  unfold rkS
  dsimp only
  rw [h]
  exact blS_bad (by decide)
end
theorem b2d_t {x : Int32} (h : x = 0) : b2i (decide (x = 0)) = 1 := by rw [decide_eq_true h]; rfl
theorem b2d_f {x : Int32} (h : ¬ x = 0) : b2i (decide (x = 0)) = 0 := by rw [decide_eq_false h]; rfl
theorem wdB_let {ty : List Int32} {t s i : Nat} (hs : s ≤ t) (hi : 0 < jSL.getD i 0) (h : wdB ty s (skq ty t 97 122 s) i = true) : tke ty t s = skq ty t 97 122 s ∧ tso ty t s = 1 := by
  cases hb : btw ty t s 97 122 with
  | false => rw [skq_eq hs hb, wdB_no hi] at h; cases h
  | true => exact ⟨by unfold tke; rw [hb]; rfl, tso_w hb⟩

