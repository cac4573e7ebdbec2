/-! the search of the class: it finds the least weight -/
def cb (h b : Nat → Int32) (os : List Int32) (m t : Nat) : Nat → Nat → Int32
  | 0 => b
  | i + 1 => play h (cb h b os m t i) (bif t.testBit i then gi os i ||| ((1 : Int32) <<< (nI m &&& 31)) else gi os i)
theorem cb_s (h b : Nat → Int32) (os : List Int32) (m t i : Nat) : cb h b os m t (i + 1) = play h (cb h b os m t i) (bif t.testBit i then gi os i ||| ((1 : Int32) <<< (nI m &&& 31)) else gi os i) := rfl
def Ext (nb i s t : Nat) : Prop := t < 2 ^ nb ∧ ∀ j, j < i → t.testBit j = s.testBit j
def ow (h b : Nat → Int32) (os : List Int32) (m t i : Nat) : Nat := (cb h b os m t i (21 + m)).toInt.toNat
def wtA (h b : Nat → Int32) (os : List Int32) (m nb t : Nat) : Nat := (ow h b os m t nb - ow h b os m 0 0) * 65536 + cn t 12 * 4096 + t
theorem nI_un {n : Nat} (h : n < 2 ^ 31) : (nI n).toInt.toNat = n := by rw [nI_toInt h]; rfl
theorem psO_ge {k st c j o : Int32} {n : Nat} (hn : n ≤ 4) {O C : Nat} (ho : o = nI O) (hc : c = nI C) (hC : C ≤ 99) (hj : 0 ≤ j) : ∃ O', psO k st c (nI n) j o = nI O' ∧ O ≤ O' ∧ O' ≤ O + 99 := by
  subst ho
  subst hc
  unfold psO ptO
  by_cases k1 : k = 1
  · rw [if_pos k1]; exact ⟨O, rfl, Nat.le_refl _, by omega⟩
  · rw [if_neg k1]
    by_cases k2 : k = 2
    · rw [if_pos k2]
      by_cases n0 : nI n ≤ 0
      · rw [if_pos n0]; exact ⟨O, rfl, Nat.le_refl _, by omega⟩
      · rw [if_neg n0]
        by_cases nj : nI n ≤ j
        · rw [if_pos nj]; exact ⟨O, rfl, Nat.le_refl _, by omega⟩
        · rw [if_neg nj]
          have hn0 : 0 < n := by
            rcases Nat.eq_zero_or_pos n with e | e
            · subst e; exact absurd hj (fun q => nj q)
            · exact e
          rw [div_nI C (by omega) n (by omega) hn0, nI_add]
          have := Nat.div_le_self C n
          exact ⟨O + C / n, rfl, Nat.le_add_right _ _, by omega⟩
    · rw [if_neg k2]
      by_cases sj : st = j
      · rw [if_pos sj, nI_add]; exact ⟨O + C, rfl, by omega, by omega⟩
      · rw [if_neg sj]; exact ⟨O, rfl, Nat.le_refl _, by omega⟩
theorem pkO_ge {s j c u o x : Int32} {f : Bool} {C U G O : Nat} (hc : c = nI C) (hu : u = nI U) (ho : o = nI G) (hx : x = nI O) (hC : C ≤ 99) (hG : G ≤ 99) : ∃ O', pkO s f j c u o x = nI O' ∧ O ≤ O' ∧ O' ≤ O + 99 * U + 99 := by
  subst hc
  subst hu
  subst ho
  subst hx
  unfold pkO
  have h1 : C * U ≤ 99 * U := Nat.mul_le_mul_right U hC
  cases hB s j with
  | false => exact ⟨O, rfl, Nat.le_refl _, by omega⟩
  | true =>
    cases f with
    | true => exact ⟨O + G, by show nI O + nI G = _; rw [nI_add], by omega, by omega⟩
    | false => exact ⟨O + C * U, by show nI O + nI C * nI U = _; rw [nI_mul, nI_add], by omega, by omega⟩
theorem ow_step {M n : Nat} {h b : Nat → Int32} (h0 : h 0 = nI n) (hn : n ≤ 4) (H : OwB M b) (s : Int32) {m : Nat} (hm : m < 4) : ∃ O O', b (21 + m) = nI O ∧ play h b s (21 + m) = nI O' ∧ O ≤ O' ∧ O' ≤ M + 99 := by
  obtain ⟨C, G, U, O, e1, hC, e2, hG, e8, H⟩ := H
  obtain ⟨om, mm⟩ := H m hm
  by_cases hw : who b s = 0
  · have key : ∀ j : Int32, 0 ≤ j → play h b s (21 + m) = psO (b 0) (b 7) (b 1) (h 0) j (b (21 + m)) → ∃ O1 O', b (21 + m) = nI O1 ∧ play h b s (21 + m) = nI O' ∧ O1 ≤ O' ∧ O' ≤ M + 99 := by
      intro j hj e
      obtain ⟨p, a, c, d⟩ := psO_ge (k := b 0) (st := b 7) (j := j) hn om e1 hC hj
      rw [h0] at e
      exact ⟨O m, p, om, e.trans a, c, by omega⟩
    match m, hm with
    | 0, _ => exact key 0 (by decide) (if_pos hw)
    | 1, _ => exact key 1 (by decide) (if_pos hw)
    | 2, _ => exact key 2 (by decide) (if_pos hw)
    | 3, _ => exact key 3 (by decide) (if_pos hw)
  · have key : ∀ (j : Int32) (f : Bool), play h b s (21 + m) = pkO (who b s) f j (b 1) (b 8) (b 2) (b (21 + m)) → ∃ O1 O', b (21 + m) = nI O1 ∧ play h b s (21 + m) = nI O' ∧ O1 ≤ O' ∧ O' ≤ M + 99 := by
      intro j f e
      obtain ⟨p, a, c, d⟩ := pkO_ge (s := who b s) (j := j) (f := f) e1 e8 e2 om hC hG
      exact ⟨O m, p, om, e.trans a, c, by omega⟩
    match m, hm with
    | 0, _ => exact key 0 _ (if_neg hw)
    | 1, _ => exact key 1 _ (if_neg hw)
    | 2, _ => exact key 2 _ (if_neg hw)
    | 3, _ => exact key 3 _ (if_neg hw)
theorem cb_OwB {M n : Nat} {h b : Nat → Int32} {os : List Int32} {m : Nat} (h0 : h 0 = nI n) (hn : n ≤ 4) (H : OwB M b) (t : Nat) : ∀ i, OwB (M + 99 * i) (cb h b os m t i)
  | 0 => H
  | i + 1 => OwB_mono (OwB_play h0 hn (cb_OwB h0 hn H t i) _) (by omega)
theorem ow_at {M n : Nat} {h b : Nat → Int32} {os : List Int32} {m : Nat} (h0 : h 0 = nI n) (hn : n ≤ 4) (H : OwB M b) (hm : m < 4) (hM : M ≤ 2 ^ 29) (t : Nat) {i : Nat} (hi : i ≤ 12) : cb h b os m t i (21 + m) = nI (ow h b os m t i) ∧ ow h b os m t i ≤ M + 99 * i := by
  obtain ⟨C, G, U, O, e1, hC, e2, hG, e8, H2⟩ := cb_OwB (os := os) (m := m) h0 hn H t i
  obtain ⟨om, mm⟩ := H2 m hm
  have e : ow h b os m t i = O m := by
    unfold ow
    rw [om, nI_un (by omega)]
  rw [e]
  exact ⟨om, by omega⟩
theorem ow_mono1 {M n : Nat} {h b : Nat → Int32} {os : List Int32} {m : Nat} (h0 : h 0 = nI n) (hn : n ≤ 4) (H : OwB M b) (hm : m < 4) (hM : M ≤ 2 ^ 29) (t : Nat) {i : Nat} (hi : i < 12) : ow h b os m t i ≤ ow h b os m t (i + 1) := by
  obtain ⟨a1, a2⟩ := ow_at (os := os) h0 hn H hm hM t (i := i) (by omega)
  obtain ⟨b1, b2⟩ := ow_at (os := os) h0 hn H hm hM t (i := i + 1) (by omega)
  obtain ⟨O, O', c1, c2, c3, c4⟩ := ow_step (h := h) h0 hn (cb_OwB (os := os) (m := m) h0 hn H t i) (bif t.testBit i then gi os i ||| ((1 : Int32) <<< (nI m &&& 31)) else gi os i) hm
  have d1 : O = ow h b os m t i := (nI_eq (by omega) (by omega)).mp (c1.symm.trans a1)
  have d2 : O' = ow h b os m t (i + 1) := (nI_eq (by omega) (by omega)).mp (c2.symm.trans b1)
  omega
theorem ow_mono {M n : Nat} {h b : Nat → Int32} {os : List Int32} {m : Nat} (h0 : h 0 = nI n) (hn : n ≤ 4) (H : OwB M b) (hm : m < 4) (hM : M ≤ 2 ^ 29) (t : Nat) {i : Nat} : ∀ d, i + d ≤ 12 → ow h b os m t i ≤ ow h b os m t (i + d)
  | 0, _ => Nat.le_refl _
  | d + 1, hd => Nat.le_trans (ow_mono h0 hn H hm hM t d (by omega)) (ow_mono1 h0 hn H hm hM t (i := i + d) (by omega))
theorem cb_agree {h b : Nat → Int32} {os : List Int32} {m t s : Nat} : ∀ i, (∀ j, j < i → t.testBit j = s.testBit j) → cb h b os m t i = cb h b os m s i
  | 0, _ => rfl
  | i + 1, e => by rw [cb_s, cb_s, cb_agree i (fun j hj => e j (by omega)), e i (by omega)]
theorem cb_tail {h b : Nat → Int32} {os : List Int32} {m t s i : Nat} (e0 : cb h b os m t i = cb h b os m s i) : ∀ d, (∀ j, i ≤ j → j < i + d → t.testBit j = s.testBit j) → cb h b os m t (i + d) = cb h b os m s (i + d)
  | 0, _ => e0
  | d + 1, e => by
    show cb h b os m t ((i + d) + 1) = cb h b os m s ((i + d) + 1)
    rw [cb_s, cb_s, cb_tail e0 d (fun j h1 h2 => e j h1 (by omega)), e (i + d) (by omega) (by omega)]
theorem Ext_le {nb i s t : Nat} (hs : s < 2 ^ i) (E : Ext nb i s t) : s ≤ t ∧ ∀ j, s.testBit j = true → t.testBit j = true := by
  have e : t % 2 ^ i = s := by
    apply Nat.eq_of_testBit_eq
    intro j
    rw [Nat.testBit_mod_two_pow]
    by_cases hj : j < i
    · rw [decide_eq_true hj, Bool.true_and]; exact E.2 j hj
    · rw [decide_eq_false hj, Bool.false_and]
      exact (Nat.testBit_lt_two_pow (Nat.lt_of_lt_of_le hs (Nat.pow_le_pow_right (by decide) (by omega)))).symm
  refine ⟨by rw [← e]; exact Nat.mod_le _ _, fun j hj => ?_⟩
  by_cases h : j < i
  · rw [E.2 j h]; exact hj
  · rw [Nat.testBit_lt_two_pow (Nat.lt_of_lt_of_le hs (Nat.pow_le_pow_right (by decide) (by omega)))] at hj
    cases hj
theorem Ext_end {nb s t : Nat} (hs : s < 2 ^ nb) (E : Ext nb nb s t) : t = s := by
  apply Nat.eq_of_testBit_eq
  intro j
  by_cases hj : j < nb
  · exact E.2 j hj
  · rw [Nat.testBit_lt_two_pow (Nat.lt_of_lt_of_le hs (Nat.pow_le_pow_right (by decide) (by omega))), Nat.testBit_lt_two_pow (Nat.lt_of_lt_of_le E.1 (Nat.pow_le_pow_right (by decide) (by omega)))]
theorem or_bit {s i j : Nat} : (s ||| 2 ^ i).testBit j = (s.testBit j || decide (i = j)) := by rw [Nat.testBit_or, Nat.testBit_two_pow]
theorem lim12 {nb t : Nat} (hnb : nb ≤ 12) (ht : t < 2 ^ nb) : t < 4096 := Nat.lt_of_lt_of_le ht (Nat.pow_le_pow_right (by decide) hnb)
theorem one_12 : ∀ i, i < 12 → (1 : Int32) <<< (nI i &&& 31) = nI (2 ^ i) := by decide +kernel
theorem nI_or {a b : Nat} (ha : a < 2 ^ 32) (hb : b < 2 ^ 32) : nI a ||| nI b = nI (a ||| b) := by
  apply Int32.toBitVec_inj.mp
  rw [Int32.toBitVec_or]
  apply BitVec.eq_of_toNat_eq
  have h : ∀ n, n < 2 ^ 32 → (nI n).toBitVec.toNat = n := fun n hn => by
    show (BitVec.ofNat 32 n).toNat = n
    rw [BitVec.toNat_ofNat, Nat.mod_eq_of_lt hn]
  rw [BitVec.toNat_or, h a ha, h b hb, h _ (Nat.or_lt_two_pow ha hb)]
set_option maxRecDepth 20000 in
theorem le_flip {R X u1 u2 t : Nat} (h : R ≤ X * 65536 + u1 * 4096 + u2) (h2 : u2 < 4096) : R ≤ X * 65536 + (u1 + 1) * 4096 + t := by omega
section
variable {M n : Nat} {h b : Nat → Int32} {os : List Int32} {m nb : Nat}
theorem se_main (h0 : h 0 = nI n) (hn : n ≤ 4) (H : OwB M b) (hm : m < 4) (hM : M ≤ 2 ^ 29) (hnb : nb ≤ 12) : ∀ (k i s bst : Nat), i + k = 12 → i ≤ nb → s < 2 ^ i → bst < 2 ^ 63 → ∃ R, seF h os m (nI (ow h b os m 0 0)) nb k i (nI s) (cb h b os m s i) (lN bst) = lN R ∧ R ≤ bst ∧ (∀ t, Ext nb i s t → R ≤ wtA h b os m nb t) ∧ (R = bst ∨ ∃ t, Ext nb i s t ∧ R = wtA h b os m nb t) := by
  intro k
  induction k with
  | zero =>
    intro i s bst hi hin hs hb
    have e1 : i = 12 := by omega
    have e2 : nb = 12 := by omega
    subst e1
    subst e2
    obtain ⟨a1, a2⟩ := ow_at (os := os) h0 hn H hm hM s (i := 12) (by omega)
    obtain ⟨z1, z2⟩ := ow_at (os := os) h0 hn H hm hM 0 (i := 0) (by omega)
    have hge : ow h b os m 0 0 ≤ ow h b os m s 12 := by
      have := ow_mono (os := os) h0 hn H hm hM s (i := 0) 12 (by omega)
      rw [Nat.zero_add] at this
      exact this
    have hw : wgF (nI (ow h b os m 0 0)) (cb h b os m s 12 (21 + m)) (nI s) = lN (wtA h b os m 12 s) := by
      rw [a1]
      have := wg_N (A := ow h b os m 0 0) (D := ow h b os m s 12 - ow h b os m 0 0) (t := s) (by omega) hs
      rw [show ow h b os m 0 0 + (ow h b os m s 12 - ow h b os m 0 0) = ow h b os m s 12 by omega] at this
      exact this
    have hc := cn_le s 12
    have hw63 : wtA h b os m 12 s < 2 ^ 63 := by unfold wtA; omega
    have hE : Ext 12 12 s s := ⟨hs, fun _ _ => rfl⟩
    by_cases hlt : wtA h b os m 12 s < bst
    · refine ⟨wtA h b os m 12 s, ?_, Nat.le_of_lt hlt, fun t ht => by rw [Ext_end hs ht]; exact Nat.le_refl _, Or.inr ⟨s, hE, rfl⟩⟩
      show (if lg_cmp (wgF _ _ _) _ < 0 then wgF _ _ _ else _) = _
      rw [hw, if_pos ((cmp_N hw63 hb).mpr hlt)]
    · refine ⟨bst, ?_, Nat.le_refl _, fun t ht => by rw [Ext_end hs ht]; omega, Or.inl rfl⟩
      show (if lg_cmp (wgF _ _ _) _ < 0 then wgF _ _ _ else _) = _
      rw [hw, if_neg (fun q => hlt ((cmp_N hw63 hb).mp q))]
  | succ k ih =>
    intro i s bst hi hin hs hb
    have hs12 : s < 4096 := lim12 (by omega) hs
    obtain ⟨a1, a2⟩ := ow_at (os := os) h0 hn H hm hM s (i := i) (by omega)
    obtain ⟨z1, z2⟩ := ow_at (os := os) h0 hn H hm hM 0 (i := 0) (by omega)
    have hge : ow h b os m 0 0 ≤ ow h b os m s i := by
      have := ow_mono (os := os) h0 hn H hm hM s (i := 0) i (by omega)
      rw [Nat.zero_add] at this
      exact this
    have hw : wgF (nI (ow h b os m 0 0)) (cb h b os m s i (21 + m)) (nI s) = lN ((ow h b os m s i - ow h b os m 0 0) * 65536 + cn s 12 * 4096 + s) := by
      rw [a1]
      have := wg_N (A := ow h b os m 0 0) (D := ow h b os m s i - ow h b os m 0 0) (t := s) (by omega) hs12
      rw [show ow h b os m 0 0 + (ow h b os m s i - ow h b os m 0 0) = ow h b os m s i by omega] at this
      exact this
    have hc := cn_le s 12
    have hw63 : (ow h b os m s i - ow h b os m 0 0) * 65536 + cn s 12 * 4096 + s < 2 ^ 63 := by omega
    have hle : ∀ t, Ext nb i s t → (ow h b os m s i - ow h b os m 0 0) * 65536 + cn s 12 * 4096 + s ≤ wtA h b os m nb t := by
      intro t ht
      obtain ⟨k1, k2⟩ := Ext_le hs ht
      have k3 := cn_mono k2 12
      have k4 : ow h b os m t i = ow h b os m s i := by unfold ow; rw [cb_agree i ht.2]
      have k5 := ow_mono (os := os) h0 hn H hm hM t (i := i) (nb - i) (by omega)
      rw [show i + (nb - i) = nb by omega, k4] at k5
      unfold wtA
      have k6 : ow h b os m s i - ow h b os m 0 0 ≤ ow h b os m t nb - ow h b os m 0 0 := by omega
      omega
    show ∃ R, (if lg_cmp (wgF _ _ _) _ < 0 then _ else _) = lN R ∧ _
    rw [hw]
    by_cases hlt : (ow h b os m s i - ow h b os m 0 0) * 65536 + cn s 12 * 4096 + s < bst
    · rw [if_pos ((cmp_N hw63 hb).mpr hlt)]
      by_cases hib : i < nb
      · rw [if_pos (nI_lt hib (by omega))]
        have bi : s.testBit i = false := Nat.testBit_lt_two_pow hs
        have hp1 : 2 ^ i < 2 ^ (i + 1) := Nat.pow_lt_pow_right (by decide) (by omega)
        have hs1 : s < 2 ^ (i + 1) := by omega
        have hs2 : s ||| 2 ^ i < 2 ^ (i + 1) := Nat.or_lt_two_pow hs1 hp1
        have c0 : play h (cb h b os m s i) (gi os i) = cb h b os m s (i + 1) := by rw [cb_s, bi]; rfl
        have b2 : ∀ j, j < i → (s ||| 2 ^ i).testBit j = s.testBit j := fun j hj => by rw [or_bit, decide_eq_false (by omega), Bool.or_false]
        have c1 : play h (cb h b os m s i) (gi os i ||| ((1 : Int32) <<< (nI m &&& 31))) = cb h b os m (s ||| 2 ^ i) (i + 1) := by
          rw [cb_s, or_bit, decide_eq_true rfl, Bool.or_true, cb_agree i b2]
          rfl
        have s1 : nI s ||| ((1 : Int32) <<< (nI i &&& 31)) = nI (s ||| 2 ^ i) := by
          have h12 : 2 ^ i < 4096 := lim12 (nb := i + 1) (by omega) hp1
          rw [one_12 i (by omega), nI_or (by omega) (by omega)]
        obtain ⟨R1, r1, r2, r3, r4⟩ := ih (i + 1) s bst (by omega) (by omega) hs1 hb
        have E0 : ∀ t, Ext nb i s t → t.testBit i = false → Ext nb (i + 1) s t := fun t ht hb0 => ⟨ht.1, fun j hj => by
          by_cases e : j = i
          · subst e; rw [hb0, bi]
          · exact ht.2 j (by omega)⟩
        have E0' : ∀ t, Ext nb (i + 1) s t → Ext nb i s t := fun t ht => ⟨ht.1, fun j hj => ht.2 j (by omega)⟩
        rw [c0, c1, s1]
        cases hcan : canB (cb h b os m s i (9 + m)) (cb h b os m s i (17 + m)) with
        | true =>
          show ∃ R, seF h os m _ nb k (i + 1) (nI (s ||| 2 ^ i)) (cb h b os m (s ||| 2 ^ i) (i + 1)) (seF h os m _ nb k (i + 1) (nI s) (cb h b os m s (i + 1)) (lN bst)) = lN R ∧ _
          rw [r1]
          obtain ⟨R2, q1, q2, q3, q4⟩ := ih (i + 1) (s ||| 2 ^ i) R1 (by omega) (by omega) hs2 (by omega)
          refine ⟨R2, q1, by omega, fun t ht => ?_, ?_⟩
          · cases hb1 : t.testBit i with
            | false => exact Nat.le_trans q2 (r3 t (E0 t ht hb1))
            | true =>
              refine q3 t ⟨ht.1, fun j hj => ?_⟩
              rw [or_bit]
              by_cases e : j = i
              · subst e; rw [hb1, decide_eq_true rfl, Bool.or_true]
              · rw [decide_eq_false (Ne.symm e), Bool.or_false]; exact ht.2 j (by omega)
          · rcases q4 with q4 | ⟨t, ht, q4⟩
            · rcases r4 with r4 | ⟨t, ht, r4⟩
              · exact Or.inl (q4.trans r4)
              · exact Or.inr ⟨t, E0' t ht, q4.trans r4⟩
            · exact Or.inr ⟨t, ⟨ht.1, fun j hj => (ht.2 j (by omega)).trans (b2 j hj)⟩, q4⟩
        | false =>
          show ∃ R, seF h os m _ nb k (i + 1) (nI s) (cb h b os m s (i + 1)) (lN bst) = lN R ∧ _
          refine ⟨R1, r1, r2, fun t ht => ?_, ?_⟩
          · cases hb1 : t.testBit i with
            | false => exact r3 t (E0 t ht hb1)
            | true =>
              have ht' : t ^^^ 2 ^ i < 2 ^ nb := Nat.xor_lt_two_pow ht.1 (Nat.pow_lt_pow_right (by decide) hib)
              have bx : ∀ j, (t ^^^ 2 ^ i).testBit j = (t.testBit j ^^ decide (i = j)) := fun j => by rw [Nat.testBit_xor, Nat.testBit_two_pow]
              have hE' : Ext nb (i + 1) s (t ^^^ 2 ^ i) := ⟨ht', fun j hj => by
                rw [bx]
                by_cases e : j = i
                · subst e; rw [hb1, bi, decide_eq_true rfl]; rfl
                · rw [decide_eq_false (Ne.symm e), Bool.xor_false]; exact ht.2 j (by omega)⟩
              have hle1 := r3 _ hE'
              have ei : cb h b os m t i = cb h b os m s i := cb_agree i ht.2
              have e1 : cb h b os m t (i + 1) = cb h b os m (t ^^^ 2 ^ i) (i + 1) := by
                rw [cb_agree (i + 1) hE'.2, cb_s, cb_s, hb1, bi, ei]
                exact play_cant hm hcan
              have e2 := cb_tail e1 (nb - (i + 1)) (fun j j1 j2 => by rw [bx, decide_eq_false (by omega), Bool.xor_false])
              rw [show i + 1 + (nb - (i + 1)) = nb by omega] at e2
              have e3 := cn_flip hb1 12
              rw [if_pos (show i < 12 by omega)] at e3
              have e4 : t ^^^ 2 ^ i < 4096 := lim12 hnb ht'
              have e5 : ow h b os m t nb = ow h b os m (t ^^^ 2 ^ i) nb := by unfold ow; rw [e2]
              unfold wtA at hle1 ⊢
              rw [e5, e3]
              exact le_flip hle1 e4
          · rcases r4 with r4 | ⟨t, ht, r4⟩
            · exact Or.inl r4
            · exact Or.inr ⟨t, E0' t ht, r4⟩
      · rw [if_neg (nI_nlt (by omega) (by omega))]
        have e1 : i = nb := by omega
        subst e1
        exact ⟨_, rfl, Nat.le_of_lt hlt, hle, Or.inr ⟨s, ⟨hs, fun _ _ => rfl⟩, rfl⟩⟩
    · rw [if_neg (fun q => hlt ((cmp_N hw63 hb).mp q))]
      exact ⟨bst, rfl, Nat.le_refl _, fun t ht => Nat.le_trans (by omega) (hle t ht), Or.inl rfl⟩
end
