/-! all sets in their order: the model finds the same -/
theorem sh_k : ∀ k, k < 12 → ((nI k &&& 31).toBitVec.smod 32).toNat = k := by decide +kernel
theorem nI_and1 {x : Nat} (h : x < 2 ^ 32) : nI x &&& 1 = nI (x % 2) := by
  apply Int32.toBitVec_inj.mp
  rw [Int32.toBitVec_and]
  apply BitVec.eq_of_toNat_eq
  have e : ∀ n, n < 2 ^ 32 → (nI n).toBitVec.toNat = n := fun n hn => by
    show (BitVec.ofNat 32 n).toNat = n
    rw [BitVec.toNat_ofNat, Nat.mod_eq_of_lt hn]
  rw [BitVec.toNat_and, e x h, e _ (by omega)]
  exact Nat.and_one_is_mod x
theorem bit_k {t k : Nat} (ht : t < 4096) (hk : k < 12) : ((nI t >>> (nI k &&& 31)) &&& 1) = bif t.testBit k then 1 else 0 := by
  rw [pk_shrN (by omega) _ k (sh_k k hk), nI_and1 (Nat.lt_of_le_of_lt (Nat.div_le_self _ _) (by omega))]
  rw [Nat.testBit_eq_decide_div_mod_eq]
  by_cases h : t / 2 ^ k % 2 = 1
  · rw [h]; rfl
  · rw [show t / 2 ^ k % 2 = 0 by omega]; rfl
theorem zero_sh : ∀ m, m < 4 → (0 : Int32) <<< (nI m &&& 31) = 0 := by decide +kernel
theorem set_k {x : Int32} {t k m : Nat} (ht : t < 4096) (hk : k < 12) (hm : m < 4) : x ||| (((nI t >>> (nI k &&& 31)) &&& 1) <<< (nI m &&& 31)) = bif t.testBit k then x ||| ((1 : Int32) <<< (nI m &&& 31)) else x := by
  rw [bit_k ht hk]
  cases t.testBit k with
  | true => rfl
  | false => show x ||| ((0 : Int32) <<< (nI m &&& 31)) = x; rw [zero_sh m hm, Int32.or_zero]
theorem gi_o12 (ps : List Int32) (n m : Nat) {k : Nat} (hk : k < 12) : gi (o12 ps n m) k = oth ps n m k := by
  match k, hk with
  | 0, _ => rfl
  | 1, _ => rfl
  | 2, _ => rfl
  | 3, _ => rfl
  | 4, _ => rfl
  | 5, _ => rfl
  | 6, _ => rfl
  | 7, _ => rfl
  | 8, _ => rfl
  | 9, _ => rfl
  | 10, _ => rfl
  | 11, _ => rfl
theorem ma_cb {h b : Nat → Int32} {ps : List Int32} {n m t : Nat} (R : Rok h) (hB : Bok h b) (ht : t < 4096) (hm : m < 4) : ∀ k, k ≤ 12 → k ≤ n → Eq25 (maB h b ps (nI m) (nI t) k) (cb h b (o12 ps n m) m t k) ∧ Bok h (cb h b (o12 ps n m) m t k)
  | 0, _, _ => ⟨Eq25_mcp b, hB⟩
  | k + 1, h1, h2 => by
    obtain ⟨i1, i2⟩ := ma_cb (ps := ps) (n := n) R hB ht hm k (by omega) (by omega)
    refine ⟨?_, Bok_play i2 R _⟩
    rw [maB_s, cb_s, set_k ht (by omega) hm, gi_o12 ps n m (by omega), oth, soI, if_pos (by omega)]
    exact (mplay_ext i2 i1 _).1
set_option maxRecDepth 20000 in
theorem wt_lt {X Y c d u v : Nat} (h : X < Y ∨ (X = Y ∧ c < d)) (hc : c ≤ 12) (hu : u < 4096) : X * 65536 + c * 4096 + u < Y * 65536 + d * 4096 + v := by omega
set_option maxRecDepth 20000 in
theorem wt_ge {X Y c d u v : Nat} (h : ¬ (X < Y ∨ (X = Y ∧ c < d))) (hd : d ≤ 12) (hv : v < 4096) (huv : v ≤ u) : Y * 65536 + d * 4096 + v ≤ X * 65536 + c * 4096 + u := by omega
set_option maxRecDepth 20000 in
theorem wt_small {X c u : Nat} (hX : X ≤ 2 ^ 29) (hc : c ≤ 12) (hu : u < 4096) : ¬ 9223372036854775807 ≤ X * 65536 + c * 4096 + u := by omega
section
variable {M n N : Nat} {h b : Nat → Int32} {ps : List Int32} {m q : Nat}
theorem mO_N (h0 : h 0 = nI n) (hn : n ≤ 4) (H : OwB M b) (hm : m < 4) (hM : M ≤ 2 ^ 29) (R : Rok h) (hB : Bok h b) (hq : q ≤ 12) (hqN : q ≤ N) {t : Nat} (ht : t < 2 ^ q) : maO h b ps (nI m) (21 + m) q t = nI (ow h b (o12 ps N m) m t q - ow h b (o12 ps N m) m 0 0) := by
  obtain ⟨i1, i2⟩ := ma_cb (ps := ps) (n := N) R hB (lim12 hq ht) hm q hq hqN
  rw [maBe, i1 (21 + m) (by omega)]
  obtain ⟨a1, a2⟩ := ow_at (os := o12 ps N m) h0 hn H hm hM t (i := q) hq
  obtain ⟨z1, z2⟩ := ow_at (os := o12 ps N m) h0 hn H hm hM 0 (i := 0) (by omega)
  have hge := ow_mono (os := o12 ps N m) h0 hn H hm hM t (i := 0) q (by omega)
  rw [Nat.zero_add] at hge
  rw [a1, show b (21 + m) = nI (ow h b (o12 ps N m) m 0 0) from z1]
  exact nI_sub hge
theorem ma_main (h0 : h 0 = nI n) (hn : n ≤ 4) (H : OwB M b) (hm : m < 4) (hM : M ≤ 2 ^ 29) (R : Rok h) (hB : Bok h b) (hq : q ≤ 12) (hqN : q ≤ N) : ∀ T, T + 1 ≤ 2 ^ q → ∃ t, t < T + 1 ∧ (∀ u, u < T + 1 → wtA h b (o12 ps N m) m q t ≤ wtA h b (o12 ps N m) m q u) ∧ maR h b ps (nI m) (21 + m) q (T + 1) = (nI (ow h b (o12 ps N m) m t q - ow h b (o12 ps N m) m 0 0), nI t)
  | 0, hT => by
    refine ⟨0, by omega, fun u hu => by rw [show u = 0 by omega]; exact Nat.le_refl _, ?_⟩
    rw [maR_s, if_pos (Or.inl (show (maR h b ps (nI m) (21 + m) q 0).2 = -1 from rfl)), mO_N (ps := ps) h0 hn H hm hM R hB hq hqN (t := 0) (by omega)]
  | T + 1, hT => by
    obtain ⟨t, t1, t2, t3⟩ := ma_main h0 hn H hm hM R hB hq hqN T (by omega)
    have hT4 : T + 1 < 4096 := lim12 hq (by omega)
    have ht4 : t < 4096 := by omega
    obtain ⟨a1, a2⟩ := ow_at (os := o12 ps N m) h0 hn H hm hM t (i := q) hq
    obtain ⟨b1, b2⟩ := ow_at (os := o12 ps N m) h0 hn H hm hM (T + 1) (i := q) hq
    have c1 := cn_le t 12
    have c2 := cn_le (T + 1) 12
    rw [maR_s, t3, mO_N (ps := ps) h0 hn H hm hM R hB hq hqN (t := T + 1) (by omega)]
    dsimp only
    rw [on_on hT4, on_on ht4]
    have hne : ¬ nI t = -1 := fun e => by
      have := congrArg Int32.toInt e
      rw [nI_toInt (by omega), show (-1 : Int32).toInt = -1 from by decide] at this
      omega
    have e1 : (nI (ow h b (o12 ps N m) m (T + 1) q - ow h b (o12 ps N m) m 0 0) < nI (ow h b (o12 ps N m) m t q - ow h b (o12 ps N m) m 0 0)) ↔ ow h b (o12 ps N m) m (T + 1) q - ow h b (o12 ps N m) m 0 0 < ow h b (o12 ps N m) m t q - ow h b (o12 ps N m) m 0 0 := nI_ltI (by omega) (by omega)
    have e2 : (nI (ow h b (o12 ps N m) m (T + 1) q - ow h b (o12 ps N m) m 0 0) = nI (ow h b (o12 ps N m) m t q - ow h b (o12 ps N m) m 0 0)) ↔ ow h b (o12 ps N m) m (T + 1) q - ow h b (o12 ps N m) m 0 0 = ow h b (o12 ps N m) m t q - ow h b (o12 ps N m) m 0 0 := nI_eq (by omega) (by omega)
    have e3 : (nI (cn (T + 1) 12) < nI (cn t 12)) ↔ cn (T + 1) 12 < cn t 12 := nI_ltI (by omega) (by omega)
    have hw : ∀ u, wtA h b (o12 ps N m) m q u = (ow h b (o12 ps N m) m u q - ow h b (o12 ps N m) m 0 0) * 65536 + cn u 12 * 4096 + u := fun _ => rfl
    by_cases hc : ow h b (o12 ps N m) m (T + 1) q - ow h b (o12 ps N m) m 0 0 < ow h b (o12 ps N m) m t q - ow h b (o12 ps N m) m 0 0 ∨ (ow h b (o12 ps N m) m (T + 1) q - ow h b (o12 ps N m) m 0 0 = ow h b (o12 ps N m) m t q - ow h b (o12 ps N m) m 0 0 ∧ cn (T + 1) 12 < cn t 12)
    · rw [if_pos (Or.inr (hc.imp e1.mpr (fun z => ⟨e2.mpr z.1, e3.mpr z.2⟩)))]
      refine ⟨T + 1, by omega, fun u hu => ?_, rfl⟩
      have hlt : wtA h b (o12 ps N m) m q (T + 1) < wtA h b (o12 ps N m) m q t := by
        rw [hw, hw]
        exact wt_lt hc c2 hT4
      by_cases hu2 : u = T + 1
      · rw [hu2]; exact Nat.le_refl _
      · exact Nat.le_of_lt (Nat.lt_of_lt_of_le hlt (t2 u (by omega)))
    · rw [if_neg (fun z => by
        rcases z with z | z | z
        · exact hne z
        · exact hc (Or.inl (e1.mp z))
        · exact hc (Or.inr ⟨e2.mp z.1, e3.mp z.2⟩))]
      refine ⟨t, by omega, fun u hu => ?_, rfl⟩
      by_cases hu2 : u = T + 1
      · rw [hu2, hw, hw]
        exact wt_ge hc c1 ht4 (by omega)
      · exact t2 u (by omega)
theorem ans_eq (h0 : h 0 = nI n) (hn : n ≤ 4) (H : OwB M b) (hm : m < 4) (hM : M ≤ 2 ^ 28) (R : Rok h) (hB : Bok h b) (hq : q ≤ 12) (hqN : q ≤ N) : lwO (seF h (o12 ps N m) m (b (21 + m)) q 12 0 0 b 9223372036854775807) = (maR h b ps (nI m) (21 + m) q (2 ^ q)).1 ∧ lwT (seF h (o12 ps N m) m (b (21 + m)) q 12 0 0 b 9223372036854775807) = (maR h b ps (nI m) (21 + m) q (2 ^ q)).2 := by
  have hp : 0 < 2 ^ q := Nat.pow_pos (by decide)
  obtain ⟨z1, z2⟩ := ow_at (os := o12 ps N m) h0 hn H hm (by omega) 0 (i := 0) (by omega)
  obtain ⟨Rr, r1, r2, r3, r4⟩ := se_main (os := o12 ps N m) h0 hn H hm (by omega) hq 12 0 0 9223372036854775807 rfl (Nat.zero_le _) (by decide) (by decide)
  have r1 : seF h (o12 ps N m) m (b (21 + m)) q 12 0 0 b 9223372036854775807 = lN Rr := by
    rw [← r1, ← z1]
    rfl
  obtain ⟨t, t1, t2, t3⟩ := ma_main (ps := ps) (N := N) (q := q) h0 hn H hm (by omega) R hB hq hqN (2 ^ q - 1) (by omega)
  rw [show 2 ^ q - 1 + 1 = 2 ^ q by omega] at t1 t2 t3
  have hE : ∀ u, u < 2 ^ q → Ext q 0 0 u := fun u hu => ⟨hu, fun j hj => absurd hj (Nat.not_lt_zero j)⟩
  have hw : ∀ u, wtA h b (o12 ps N m) m q u = (ow h b (o12 ps N m) m u q - ow h b (o12 ps N m) m 0 0) * 65536 + cn u 12 * 4096 + u := fun _ => rfl
  obtain ⟨a1, a2⟩ := ow_at (os := o12 ps N m) h0 hn H hm (by omega) t (i := q) hq
  have c1 := cn_le t 12
  have ht4 := lim12 hq t1
  have hRt : Rr = wtA h b (o12 ps N m) m q t := by
    rcases r4 with r4 | ⟨u, hu, r4⟩
    · have h1 := r3 t (hE t t1)
      rw [hw] at h1
      rw [r4] at h1
      exact absurd h1 (wt_small (by omega) c1 ht4)
    · have h1 := t2 u hu.1
      have h2 := r3 t (hE t t1)
      omega
  rw [r1, hRt, t3, hw, lwO_N (by omega) c1 ht4, lwT_N (by omega) c1 ht4]
  exact ⟨rfl, rfl⟩
end
