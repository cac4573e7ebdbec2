/-! FITS and SURE on both sides -/
theorem mwy_N {n : Nat} : ∀ c, mwy (nI n) c = nI (n ^ c)
  | 0 => rfl
  | c + 1 => by rw [mwy_s, mwy_N c, nI_mul, Nat.pow_succ]
theorem pow_lim {n c : Nat} (hn : n ≤ 4) (hc : c ≤ 7) : n ^ c ≤ 16384 := Nat.le_trans (Nat.pow_le_pow_left hn c) (Nat.pow_le_pow_right (n := 4) (by decide) hc)
theorem mN_N (h b : Nat → Int32) (gN lN : Nat → Nat) (c : Nat) : ∀ K, mN h b gN lN c K = nI (sm9 (fun t => (fitB h b gN lN c (nI t)).toNat) K)
  | 0 => rfl
  | K + 1 => by
    rw [mN_s, mN_N h b gN lN c K]
    show _ = nI (sm9 _ K + (fitB h b gN lN c (nI K)).toNat)
    rw [← nI_add]
    congr 1
    cases fitB h b gN lN c (nI K) <;> rfl
theorem Rc_ex {gs ls : List Int32} {c : Nat} (H : Rc gs ls c) : ∃ gN lN : Nat → Nat, (∀ i, i < c → gi gs i = nI (gN i) ∧ gN i ≤ 9) ∧ (∀ i, i < c → gi ls i = nI (lN i) ∧ lN i ≤ 4) ∧ ∀ i, i < c → 1 ≤ lN i := by
  obtain ⟨h1, h2⟩ := H
  obtain ⟨gN, hg⟩ := Classical.axiomOfChoice (fun i : Nat => show ∃ g : Nat, i < c → g ≤ 9 ∧ gi gs i = nI g from by
    by_cases hi : i < c
    · obtain ⟨g, a, e⟩ := h1 i hi; exact ⟨g, fun _ => ⟨a, e⟩⟩
    · exact ⟨0, fun z => absurd z hi⟩)
  obtain ⟨lN, hl⟩ := Classical.axiomOfChoice (fun i : Nat => show ∃ l : Nat, i < c → 1 ≤ l ∧ l ≤ 4 ∧ gi ls i = nI l from by
    by_cases hi : i < c
    · obtain ⟨l, a, d, e⟩ := h2 i hi; exact ⟨l, fun _ => ⟨a, d, e⟩⟩
    · exact ⟨0, fun z => absurd z hi⟩)
  exact ⟨gN, lN, fun i hi => ⟨(hg i hi).2, (hg i hi).1⟩, fun i hi => ⟨(hl i hi).2.2, (hl i hi).2.1⟩, fun i hi => (hl i hi).1⟩
/-- the seats of a book in numbers, as the house has them -/
theorem St_ex {h b : Nat → Int32} {n : Nat} {B0 R0 : Nat → Nat} (iH : Hx h) (hg : Hg h n B0 R0) (S : SvB h b) : ∃ B R A E W : Nat → Nat, Nb h b B R A E W ∧ (∀ m, m < n → 1 ≤ R m) ∧ (∀ m, n ≤ m → R m = 0) ∧ Hn9 h B R := by
  obtain ⟨B, R, A, E, W, H⟩ := S
  obtain ⟨hn, h0, hh⟩ := hg
  refine ⟨B, fun m => if m < 4 then R m else 0, A, E, W, fun m hm => ?_, fun m hm => ?_, fun m hm => ?_, fun m hm => ?_⟩
  · dsimp only
    rw [if_pos hm]
    exact H m hm
  · dsimp only
    rw [if_pos (by omega)]
    obtain ⟨-, a2, ⟨-, a3, -⟩, -⟩ := H m (by omega)
    obtain ⟨-, -, b3, b4, b5⟩ := hh m (by omega)
    have := (nI_eq (by omega) (by omega)).mp (a2.symm.trans b3)
    have := (b5 hm).1
    omega
  · dsimp only
    by_cases q : m < 4
    · rw [if_pos q]
      obtain ⟨-, a2, ⟨-, a3, -⟩, -⟩ := H m q
      have z := (Hx_seat0 iH q (by rw [h0]; exact nI_le (by omega) (by omega))).2.1
      exact (nI_eq (b := 0) (by omega) (by decide)).mp (a2.symm.trans z)
    · rw [if_neg q]
  · dsimp only
    rw [if_pos hm]
    obtain ⟨a1, a2, ⟨a3, a4, -⟩, -⟩ := H m hm
    exact ⟨a1, a2, a3, a4⟩
theorem Vn_0 {h b : Nat → Int32} {B R A E W : Nat → Nat} (H : Nb h b B R A E W) : Vn9 (wd0 h b) (gi [b 17, b 18, b 19, b 20]) (fun m => wdN (R m) (A m) (E m)) W := by
  intro m hm
  obtain ⟨a1, a2, hb, a4, a5, a6, hv⟩ := H m hm
  have hle := wdN_le hb hv
  have hBR := BR_12 hb.1 hb.2.1
  have e1 : wd0 h b m = b (9 + m) * h (6 + m) + b (13 + m) := by
    match m, hm with
    | 0, _ => rfl
    | 1, _ => rfl
    | 2, _ => rfl
    | 3, _ => rfl
  have e2 : gi [b 17, b 18, b 19, b 20] m = b (17 + m) := by
    match m, hm with
    | 0, _ => rfl
    | 1, _ => rfl
    | 2, _ => rfl
    | 3, _ => rfl
  refine ⟨?_, (show wdN (R m) (A m) (E m) ≤ 12 by omega), by rw [e2, a6], hv.2.1⟩
  rw [e1, a4, a2, a5, nI_mul, nI_add]
  rfl
theorem bef_m1 {m : Nat} (hm : m < 4) : nI m = (-1 : Int32) ↔ m = 99 := by
  refine ⟨fun q => ?_, fun q => by omega⟩
  have := congrArg Int32.toInt q
  rw [nI_toInt (by omega), show (-1 : Int32).toInt = -1 from by decide] at this
  omega
section
variable {h b : Nat → Int32} {gs ls : List Int32} {n c : Nat} {B R A E W gN lN : Nat → Nat}
theorem cl_N (HH : Hn9 h B R) (H : Nb h b B R A E W) (hg : ∀ i, i < c → gi gs i = nI (gN i) ∧ gN i ≤ 9) (hl : ∀ i, i < c → gi ls i = nI (lN i) ∧ lN i ≤ 4) : wFn h gs ls c 0 (-1) (wd0 h b) (gi [b 17, b 18, b 19, b 20]) = nI (fNn B R gN lN c 0 99 (fun m => wdN (R m) (A m) (E m)) W) :=
  wF_N HH c 0 99 (-1) _ _ _ _ (fun j _ hj => ⟨hg j (by omega), hl j (by omega)⟩) (fun m hm => bef_m1 hm) (Vn_0 H)
theorem ca_N (HH : Hn9 h B R) (H : Nb h b B R A E W) (hg : ∀ i, i < c → gi gs i = nI (gN i) ∧ gN i ≤ 9) (hl : ∀ i, i < c → gi ls i = nI (lN i) ∧ lN i ≤ 4) (p : Nat) : wAn h gs ls c 0 (-1) (wd0 h b) (gi [b 17, b 18, b 19, b 20]) p = nI (aNn B R gN lN p c 0 99 (fun m => wdN (R m) (A m) (E m)) W) :=
  wA_N HH p c 0 99 (-1) _ _ _ _ (fun j _ hj => ⟨hg j (by omega), hl j (by omega)⟩) (fun m hm => bef_m1 hm) (Vn_0 H)
theorem fit_N (Rk : Rok h) (hB : Bok h b) (H : Nb h b B R A E W) (hn0 : 0 < n) (hn : n ≤ 4) (h0 : h 0 = nI n) (hR : ∀ m, m < n → 1 ≤ R m) (hl : ∀ i, i < c → 1 ≤ lN i) {t : Nat} (ht : t < 2 ^ 31) : fitB h b gN lN c (nI t) = okT n B R gN lN c 0 99 (fun m => wdN (R m) (A m) (E m)) W t := by
  have := mF_N (gN := gN) Rk (t := t) hn0 hn h0 hR ht hl c 0 99 (mcp b) b A E W (fun m => wdN (R m) (A m) (E m)) W (by omega) rfl hB (Eq25_mcp b) H (fun m _ => ⟨rfl, rfl⟩)
  rw [Nat.pow_zero, Nat.div_one] at this
  exact this
theorem fits_eq (Rk : Rok h) (hB : Bok h b) (HH : Hn9 h B R) (H : Nb h b B R A E W) (hn : n ≤ 4) (h0 : h 0 = nI n) (hR : ∀ m, m < n → 1 ≤ R m) (hR0 : ∀ m, n ≤ m → R m = 0) (hc : c ≤ 7) (hg : ∀ i, i < c → gi gs i = nI (gN i) ∧ gN i ≤ 9) (hl : ∀ i, i < c → gi ls i = nI (lN i) ∧ lN i ≤ 4) (hl1 : ∀ i, i < c → 1 ≤ lN i) (hcn : 0 < c → 0 < n) : mN h b gN lN c (n ^ c) = wFn h gs ls c 0 (-1) (wd0 h b) (gi [b 17, b 18, b 19, b 20]) := by
  rw [cl_N HH H hg hl, mN_N, fN_eq hn hR0]
  congr 1
  refine sm_ext _ fun t ht => ?_
  have hp := pow_lim hn hc
  by_cases e : c = 0
  · subst e; rfl
  · rw [fit_N Rk hB H (hcn (by omega)) hn h0 hR hl1 (by omega)]
theorem fits_z (HH : Hn9 h B R) (H : Nb h b B R A E W) (hn : n = 0) (hR0 : ∀ m, n ≤ m → R m = 0) (hg : ∀ i, i < c → gi gs i = nI (gN i) ∧ gN i ≤ 9) (hl : ∀ i, i < c → gi ls i = nI (lN i) ∧ lN i ≤ 4) (hc : 0 < c) : wFn h gs ls c 0 (-1) (wd0 h b) (gi [b 17, b 18, b 19, b 20]) = 0 := by
  rw [cl_N HH H hg hl, fN_eq (n := n) (by omega) hR0, hn, Nat.zero_pow hc]
  rfl
/-! SURE -/
def uN (P : Nat → Bool) (D : Nat → Nat) : Nat → Nat
  | 0 => 0
  | k + 1 => bif P k then uN P D k ||| 2 ^ D k else uN P D k
theorem uN_16 {P : Nat → Bool} {D : Nat → Nat} (hD : ∀ t, D t < 4) : ∀ K, uN P D K < 16
  | 0 => by show 0 < 16; decide
  | K + 1 => by
    have ih := uN_16 (P := P) hD K
    show (bif P K then _ else _) < 16
    cases P K with
    | true => exact Nat.or_lt_two_pow (n := 4) ih (Nat.pow_lt_pow_right (by decide) (hD K))
    | false => exact ih
theorem uN_bit {P : Nat → Bool} {D : Nat → Nat} {m : Nat} : ∀ K, (uN P D K).testBit m = decide (0 < sm9 (fun t => (P t && decide (D t = m)).toNat) K)
  | 0 => by rw [show uN P D 0 = 0 from rfl, Nat.zero_testBit]; rfl
  | K + 1 => by
    have ih := uN_bit (P := P) (D := D) (m := m) K
    show (bif P K then uN P D K ||| 2 ^ D K else uN P D K).testBit m = decide (0 < sm9 (fun t => (P t && decide (D t = m)).toNat) K + (P K && decide (D K = m)).toNat)
    cases P K with
    | false => exact ih
    | true =>
      show (uN P D K ||| 2 ^ D K).testBit m = decide (0 < _ + (decide (D K = m)).toNat)
      rw [Nat.testBit_or, Nat.testBit_two_pow, ih]
      by_cases e : D K = m
      · rw [decide_eq_true e, Bool.or_true]; exact (decide_eq_true (Nat.succ_pos _)).symm
      · rw [decide_eq_false e, Bool.or_false]; rfl
theorem mU_N {q : Nat} (hn0 : 0 < n) (hn : n ≤ 4) (h0 : h 0 = nI n) : ∀ K, K ≤ 2 ^ 31 → mU h b gN lN c q K = nI (uN (fun t => fitB h b gN lN c (nI t)) (fun t => t / n ^ q % n) K)
  | 0, _ => rfl
  | K + 1, hK => by
    have hD : ∀ t, t / n ^ q % n < 4 := fun t => Nat.lt_of_lt_of_le (Nat.mod_lt _ hn0) hn
    have h16 := uN_16 (P := fun t => fitB h b gN lN c (nI t)) hD K
    rw [mU_s, mU_N hn0 hn h0 K (by omega), h0, spI_N hn0 (by omega) (by omega), one_12 _ (Nat.lt_of_lt_of_le (hD K) (by decide))]
    show _ = nI (bif fitB h b gN lN c (nI K) then _ else _)
    have hp : 2 ^ (K / n ^ q % n) < 16 := Nat.pow_lt_pow_right (a := 2) (n := 4) (by decide) (hD K)
    cases fitB h b gN lN c (nI K) with
    | true => exact nI_or (by omega) (by omega)
    | false => exact Int32.or_zero
def vl9 (b0 b1 b2 b3 : Bool) : Int32 := bif b0 && !b1 && !b2 && !b3 then 0 else bif !b0 && b1 && !b2 && !b3 then 1 else bif !b0 && !b1 && b2 && !b3 then 2 else bif !b0 && !b1 && !b2 && b3 then 3 else -1
theorem vl_m : ∀ u, u < 16 → (if onI (nI u) = 1 then lst (nI u) else -1) = vl9 (u.testBit 0) (u.testBit 1) (u.testBit 2) (u.testBit 3) := by decide +kernel
theorem sm_le9 {f : Nat → Nat} : ∀ K, (∀ t, f t ≤ 1) → sm9 f K ≤ K
  | 0, _ => Nat.le_refl _
  | K + 1, h => by
    have := sm_le9 K h
    have := h K
    show sm9 f K + f K ≤ K + 1
    omega
theorem vl_c {X0 X1 X2 X3 T : Nat} (hT : T = X0 + X1 + X2 + X3) (h31 : T < 2 ^ 31) : (if nI T = 0 then (-1 : Int32) else if nI X0 = nI T then 0 else if nI X1 = nI T then 1 else if nI X2 = nI T then 2 else if nI X3 = nI T then 3 else -1) = vl9 (decide (0 < X0)) (decide (0 < X1)) (decide (0 < X2)) (decide (0 < X3)) := by
  have c0 : ¬ T = 0 → ¬ nI T = 0 := fun z q => z ((nI_eq (b := 0) h31 (by decide)).mp q)
  have cx : ∀ X, X < 2 ^ 31 → ¬ X = T → ¬ nI X = nI T := fun X hX z q => z ((nI_eq hX h31).mp q)
  by_cases h0 : 0 < X0
  · skip
    by_cases h1 : 0 < X1
    · skip
      by_cases h2 : 0 < X2
      · skip
        by_cases h3 : 0 < X3
        · skip
          rw [if_neg (c0 (by omega)), if_neg (cx X0 (by omega) (by omega)), if_neg (cx X1 (by omega) (by omega)), if_neg (cx X2 (by omega) (by omega)), if_neg (cx X3 (by omega) (by omega)), decide_eq_true (show 0 < X0 by omega), decide_eq_true (show 0 < X1 by omega), decide_eq_true (show 0 < X2 by omega), decide_eq_true (show 0 < X3 by omega)]; rfl
        · skip
          rw [if_neg (c0 (by omega)), if_neg (cx X0 (by omega) (by omega)), if_neg (cx X1 (by omega) (by omega)), if_neg (cx X2 (by omega) (by omega)), if_neg (cx X3 (by omega) (by omega)), decide_eq_true (show 0 < X0 by omega), decide_eq_true (show 0 < X1 by omega), decide_eq_true (show 0 < X2 by omega), decide_eq_false (show ¬ 0 < X3 by omega)]; rfl
      · skip
        by_cases h3 : 0 < X3
        · skip
          rw [if_neg (c0 (by omega)), if_neg (cx X0 (by omega) (by omega)), if_neg (cx X1 (by omega) (by omega)), if_neg (cx X2 (by omega) (by omega)), if_neg (cx X3 (by omega) (by omega)), decide_eq_true (show 0 < X0 by omega), decide_eq_true (show 0 < X1 by omega), decide_eq_false (show ¬ 0 < X2 by omega), decide_eq_true (show 0 < X3 by omega)]; rfl
        · skip
          rw [if_neg (c0 (by omega)), if_neg (cx X0 (by omega) (by omega)), if_neg (cx X1 (by omega) (by omega)), if_neg (cx X2 (by omega) (by omega)), if_neg (cx X3 (by omega) (by omega)), decide_eq_true (show 0 < X0 by omega), decide_eq_true (show 0 < X1 by omega), decide_eq_false (show ¬ 0 < X2 by omega), decide_eq_false (show ¬ 0 < X3 by omega)]; rfl
    · skip
      by_cases h2 : 0 < X2
      · skip
        by_cases h3 : 0 < X3
        · skip
          rw [if_neg (c0 (by omega)), if_neg (cx X0 (by omega) (by omega)), if_neg (cx X1 (by omega) (by omega)), if_neg (cx X2 (by omega) (by omega)), if_neg (cx X3 (by omega) (by omega)), decide_eq_true (show 0 < X0 by omega), decide_eq_false (show ¬ 0 < X1 by omega), decide_eq_true (show 0 < X2 by omega), decide_eq_true (show 0 < X3 by omega)]; rfl
        · skip
          rw [if_neg (c0 (by omega)), if_neg (cx X0 (by omega) (by omega)), if_neg (cx X1 (by omega) (by omega)), if_neg (cx X2 (by omega) (by omega)), if_neg (cx X3 (by omega) (by omega)), decide_eq_true (show 0 < X0 by omega), decide_eq_false (show ¬ 0 < X1 by omega), decide_eq_true (show 0 < X2 by omega), decide_eq_false (show ¬ 0 < X3 by omega)]; rfl
      · skip
        by_cases h3 : 0 < X3
        · skip
          rw [if_neg (c0 (by omega)), if_neg (cx X0 (by omega) (by omega)), if_neg (cx X1 (by omega) (by omega)), if_neg (cx X2 (by omega) (by omega)), if_neg (cx X3 (by omega) (by omega)), decide_eq_true (show 0 < X0 by omega), decide_eq_false (show ¬ 0 < X1 by omega), decide_eq_false (show ¬ 0 < X2 by omega), decide_eq_true (show 0 < X3 by omega)]; rfl
        · skip
          have e9 : X0 = T := by omega
          rw [if_neg (c0 (by omega)), if_pos (congrArg nI e9), decide_eq_true (show 0 < X0 by omega), decide_eq_false (show ¬ 0 < X1 by omega), decide_eq_false (show ¬ 0 < X2 by omega), decide_eq_false (show ¬ 0 < X3 by omega)]; rfl
  · skip
    by_cases h1 : 0 < X1
    · skip
      by_cases h2 : 0 < X2
      · skip
        by_cases h3 : 0 < X3
        · skip
          rw [if_neg (c0 (by omega)), if_neg (cx X0 (by omega) (by omega)), if_neg (cx X1 (by omega) (by omega)), if_neg (cx X2 (by omega) (by omega)), if_neg (cx X3 (by omega) (by omega)), decide_eq_false (show ¬ 0 < X0 by omega), decide_eq_true (show 0 < X1 by omega), decide_eq_true (show 0 < X2 by omega), decide_eq_true (show 0 < X3 by omega)]; rfl
        · skip
          rw [if_neg (c0 (by omega)), if_neg (cx X0 (by omega) (by omega)), if_neg (cx X1 (by omega) (by omega)), if_neg (cx X2 (by omega) (by omega)), if_neg (cx X3 (by omega) (by omega)), decide_eq_false (show ¬ 0 < X0 by omega), decide_eq_true (show 0 < X1 by omega), decide_eq_true (show 0 < X2 by omega), decide_eq_false (show ¬ 0 < X3 by omega)]; rfl
      · skip
        by_cases h3 : 0 < X3
        · skip
          rw [if_neg (c0 (by omega)), if_neg (cx X0 (by omega) (by omega)), if_neg (cx X1 (by omega) (by omega)), if_neg (cx X2 (by omega) (by omega)), if_neg (cx X3 (by omega) (by omega)), decide_eq_false (show ¬ 0 < X0 by omega), decide_eq_true (show 0 < X1 by omega), decide_eq_false (show ¬ 0 < X2 by omega), decide_eq_true (show 0 < X3 by omega)]; rfl
        · skip
          have e9 : X1 = T := by omega
          rw [if_neg (c0 (by omega)), if_neg (cx X0 (by omega) (by omega)), if_pos (congrArg nI e9), decide_eq_false (show ¬ 0 < X0 by omega), decide_eq_true (show 0 < X1 by omega), decide_eq_false (show ¬ 0 < X2 by omega), decide_eq_false (show ¬ 0 < X3 by omega)]; rfl
    · skip
      by_cases h2 : 0 < X2
      · skip
        by_cases h3 : 0 < X3
        · skip
          rw [if_neg (c0 (by omega)), if_neg (cx X0 (by omega) (by omega)), if_neg (cx X1 (by omega) (by omega)), if_neg (cx X2 (by omega) (by omega)), if_neg (cx X3 (by omega) (by omega)), decide_eq_false (show ¬ 0 < X0 by omega), decide_eq_false (show ¬ 0 < X1 by omega), decide_eq_true (show 0 < X2 by omega), decide_eq_true (show 0 < X3 by omega)]; rfl
        · skip
          have e9 : X2 = T := by omega
          rw [if_neg (c0 (by omega)), if_neg (cx X0 (by omega) (by omega)), if_neg (cx X1 (by omega) (by omega)), if_pos (congrArg nI e9), decide_eq_false (show ¬ 0 < X0 by omega), decide_eq_false (show ¬ 0 < X1 by omega), decide_eq_true (show 0 < X2 by omega), decide_eq_false (show ¬ 0 < X3 by omega)]; rfl
      · skip
        by_cases h3 : 0 < X3
        · skip
          have e9 : X3 = T := by omega
          rw [if_neg (c0 (by omega)), if_neg (cx X0 (by omega) (by omega)), if_neg (cx X1 (by omega) (by omega)), if_neg (cx X2 (by omega) (by omega)), if_pos (congrArg nI e9), decide_eq_false (show ¬ 0 < X0 by omega), decide_eq_false (show ¬ 0 < X1 by omega), decide_eq_false (show ¬ 0 < X2 by omega), decide_eq_true (show 0 < X3 by omega)]; rfl
        · skip
          rw [show T = 0 by omega, if_pos (show nI 0 = 0 from rfl), decide_eq_false (show ¬ 0 < X0 by omega), decide_eq_false (show ¬ 0 < X1 by omega), decide_eq_false (show ¬ 0 < X2 by omega), decide_eq_false (show ¬ 0 < X3 by omega)]; rfl
theorem sm_4 {P : Nat → Bool} {D : Nat → Nat} (hD : ∀ t, D t < 4) (K : Nat) : sm9 (fun t => (P t).toNat) K = sm9 (fun t => (P t && decide (D t = 0)).toNat) K + sm9 (fun t => (P t && decide (D t = 1)).toNat) K + sm9 (fun t => (P t && decide (D t = 2)).toNat) K + sm9 (fun t => (P t && decide (D t = 3)).toNat) K := by
  rw [← sm_addf, ← sm_addf, ← sm_addf]
  refine sm_ext K fun t _ => ?_
  have := hD t
  generalize D t = d at this
  cases P t with
  | false => rfl
  | true =>
    match d, this with
    | 0, _ => rfl
    | 1, _ => rfl
    | 2, _ => rfl
    | 3, _ => rfl
theorem sure_eq {q : Nat} (Rk : Rok h) (hB : Bok h b) (HH : Hn9 h B R) (H : Nb h b B R A E W) (hn0 : 0 < n) (hn : n ≤ 4) (h0 : h 0 = nI n) (hR : ∀ m, m < n → 1 ≤ R m) (hR0 : ∀ m, n ≤ m → R m = 0) (hc : c ≤ 7) (hq : q < c) (hg : ∀ i, i < c → gi gs i = nI (gN i) ∧ gN i ≤ 9) (hl : ∀ i, i < c → gi ls i = nI (lN i) ∧ lN i ≤ 4) (hl1 : ∀ i, i < c → 1 ≤ lN i) : (if onI (mU h b gN lN c q (n ^ c)) = 1 then lst (mU h b gN lN c q (n ^ c)) else -1) = osA h gs ls c q (wd0 h b) (gi [b 17, b 18, b 19, b 20]) := by
  have hp := pow_lim hn hc
  have hD : ∀ t, t / n ^ q % n < 4 := fun t => Nat.lt_of_lt_of_le (Nat.mod_lt _ hn0) hn
  have h16 := uN_16 (P := fun t => fitB h b gN lN c (nI t)) hD (n ^ c)
  rw [mU_N hn0 hn h0 (n ^ c) (by omega), vl_m _ h16, uN_bit, uN_bit, uN_bit, uN_bit]
  unfold osA
  rw [cl_N HH H hg hl, ca_N HH H hg hl, ca_N HH H hg hl, ca_N HH H hg hl, ca_N HH H hg hl, fN_eq hn hR0, aN_eq hn hR0 (by decide) c 0 99 _ _ (Nat.zero_le q) (by omega), aN_eq hn hR0 (by decide) c 0 99 _ _ (Nat.zero_le q) (by omega), aN_eq hn hR0 (by decide) c 0 99 _ _ (Nat.zero_le q) (by omega), aN_eq hn hR0 (by decide) c 0 99 _ _ (Nat.zero_le q) (by omega), Nat.sub_zero]
  have hP : ∀ m, sm9 (fun t => (fitB h b gN lN c (nI t) && decide (t / n ^ q % n = m)).toNat) (n ^ c) = sm9 (fun t => (okT n B R gN lN c 0 99 (fun m => wdN (R m) (A m) (E m)) W t && decide (t / n ^ q % n = m)).toNat) (n ^ c) := fun m => sm_ext _ fun t ht => by rw [fit_N Rk hB H hn0 hn h0 hR hl1 (by omega)]
  rw [hP 0, hP 1, hP 2, hP 3]
  refine (vl_c (sm_4 hD (n ^ c)) ?_).symm
  exact Nat.lt_of_le_of_lt (sm_le9 (n ^ c) (fun t => by cases okT n B R gN lN c 0 99 (fun m => wdN (R m) (A m) (E m)) W t <;> decide)) (by omega)
end
