/-! the model's way: gaps, speeches, digits -/
def Nb (h c : Nat → Int32) (B R A E W : Nat → Nat) : Prop := ∀ m, m < 4 → h (2 + m) = nI (B m) ∧ h (6 + m) = nI (R m) ∧ Br (B m) (R m) ∧ c (9 + m) = nI (A m) ∧ c (13 + m) = nI (E m) ∧ c (17 + m) = nI (W m) ∧ Sv (B m) (R m) (A m) (E m) (W m)
theorem Nb_play {h c : Nat → Int32} {B R A E W : Nat → Nat} (H : Nb h c B R A E W) {s : Int32} {f : Nat → Bool} (ef : ∀ m, m < 4 → spk c s m = f m) : Nb h (play h c s) B R (fun m => (nxN (B m) (R m) (f m) (A m) (E m)).1) (fun m => (nxN (B m) (R m) (f m) (A m) (E m)).2) (fun m => bif f m then W m - 1 else W m) := by
  intro m hm
  obtain ⟨h1, h2, ⟨b1, b2, b3⟩, h4, h5, h6, ⟨v1, v2, v3, v4⟩⟩ := H m hm
  have hf : f m = true → 0 < A m ∧ 0 < W m := by
    intro q
    rw [← ef m hm] at q
    have q2 := (Bool.and_eq_true_iff.mp q).2
    rw [h4, h6, canB_N (by omega) (by omega)] at q2
    obtain ⟨q3, q4⟩ := Bool.and_eq_true_iff.mp q2
    exact ⟨of_decide_eq_true q3, of_decide_eq_true q4⟩
  refine ⟨h1, h2, ⟨b1, b2, b3⟩, ?_, ?_, ?_, Sv_nx ⟨b1, b2, b3⟩ ⟨v1, v2, v3, v4⟩ (fun q => (hf q).1)⟩
  · rw [play_A h c s hm, ef m hm, h1, h2, h4, h5]
    exact nA_N ⟨b1, b2, b3⟩ v1 v3 (fun q => (hf q).1)
  · rw [play_E h c s hm, ef m hm, h1, h2, h4, h5]
    exact nE_N ⟨b1, b2, b3⟩ v1 v3
  · rw [play_W h c s hm, ef m hm, h6]
    exact nW_N (fun q => (hf q).2)
theorem hB_z : ∀ m, m < 4 → hB 0 (nI m) = false := by decide +kernel
theorem hB_o : ∀ a, a < 4 → ∀ m, m < 4 → hB ((1 : Int32) <<< (nI a &&& 31)) (nI m) = decide (m = a) := by decide +kernel
theorem spk_z (c : Nat → Int32) {m : Nat} (hm : m < 4) : spk c 0 m = false := by
  unfold spk
  rw [hB_z m hm]
  rfl
theorem mI_N {h : Nat → Int32} {B R W : Nat → Nat} (Rk : Rok h) : ∀ (g : Nat) (b c : Nat → Int32) (A E : Nat → Nat), Bok h c → Eq25 b c → Nb h c B R A E W → ∃ (c' : Nat → Int32) (A' E' : Nat → Nat), Bok h c' ∧ Eq25 (mI h g b) c' ∧ Nb h c' B R A' E' W ∧ ∀ m, m < 4 → wdN (R m) (A' m) (E' m) = min (wdN (R m) (A m) (E m) + g) (B m * R m)
  | 0, b, c, A, E, hB, e, H => by
    refine ⟨c, A, E, hB, e, H, fun m hm => ?_⟩
    obtain ⟨-, -, hb, -, -, -, hv⟩ := H m hm
    have := wdN_le hb hv
    omega
  | g + 1, b, c, A, E, hB, e, H => by
    have e1 := (mplay_ext hB e 0).1
    have N1 : Nb h (play h c 0) B R (fun m => (nxN (B m) (R m) false (A m) (E m)).1) (fun m => (nxN (B m) (R m) false (A m) (E m)).2) W := Nb_play (f := fun _ => false) H (fun m hm => spk_z c hm)
    obtain ⟨c', A', E', k1, k2, k3, k4⟩ := mI_N Rk g (mplay h b 0) (play h c 0) _ _ (Bok_play hB Rk 0) e1 N1
    refine ⟨c', A', E', k1, k2, k3, fun m hm => ?_⟩
    obtain ⟨-, -, hb, -, -, -, hv⟩ := H m hm
    have := wdN_rest hb hv
    rw [k4 m hm, this]
    omega
theorem who_z {c : Nat → Int32} {s : Int32} (e : ∀ m, m < 4 → spk c s m = false) : who c s = 0 := by
  unfold who
  rw [bU_ext (g := fun _ => false) 4 e]
  rfl
theorem who_nz {c : Nat → Int32} {s : Int32} {m : Nat} (hm : m < 4) (e : spk c s m = true) : ¬ who c s = 0 := by
  intro z
  have h : hB (who c s) (nI m) = spk c s m := by
    obtain ⟨w0, w1, w2, w3⟩ := hB_bU (spk c s)
    match m, hm with
    | 0, _ => exact w0
    | 1, _ => exact w1
    | 2, _ => exact w2
    | 3, _ => exact w3
  rw [z, hB_z m hm, e] at h
  cases h
theorem spk_o {c : Nat → Int32} {a : Nat} (ha : a < 4) {m : Nat} (hm : m < 4) : spk c ((1 : Int32) <<< (nI a &&& 31)) m = (decide (m = a) && canB (c (9 + m)) (c (17 + m))) := by
  unfold spk
  rw [hB_o a ha m hm]
theorem mL_f {h : Nat → Int32} {w : Int32} {b : Nat → Int32} : ∀ l, (mL h w l b false).2 = false
  | 0 => rfl
  | _ + 1 => rfl
theorem Nb_can {h c : Nat → Int32} {B R A E W : Nat → Nat} (H : Nb h c B R A E W) {m : Nat} (hm : m < 4) : canB (c (9 + m)) (c (17 + m)) = (decide (0 < A m) && decide (0 < W m)) := by
  obtain ⟨h1, h2, ⟨b1, b2, b3⟩, h4, h5, h6, ⟨v1, v2, v3, v4⟩⟩ := H m hm
  rw [h4, h6, canB_N (by omega) (by omega)]
theorem mL_ok {h : Nat → Int32} {B R : Nat → Nat} (Rk : Rok h) {a : Nat} (ha : a < 4) : ∀ (l : Nat) (b c : Nat → Int32) (A E W : Nat → Nat), Bok h c → Eq25 b c → Nb h c B R A E W → l ≤ A a → l ≤ W a → ∃ (b' c' : Nat → Int32) (A' E' W' : Nat → Nat), mL h ((1 : Int32) <<< (nI a &&& 31)) l b true = (b', true) ∧ Bok h c' ∧ Eq25 b' c' ∧ Nb h c' B R A' E' W' ∧ A' a = A a - l ∧ (0 < l ∨ E a = 0 → E' a = 0) ∧ W' a = W a - l ∧ ∀ m, m < 4 → ¬ m = a → wdN (R m) (A' m) (E' m) = min (wdN (R m) (A m) (E m) + l) (B m * R m) ∧ W' m = W m
  | 0, b, c, A, E, W, hB, e, H, _, _ => by
    refine ⟨b, c, A, E, W, rfl, hB, e, H, rfl, fun q => q.resolve_left (by decide), rfl, fun m hm _ => ⟨?_, rfl⟩⟩
    obtain ⟨-, -, hb, -, -, -, hv⟩ := H m hm
    have := wdN_le hb hv
    omega
  | l + 1, b, c, A, E, W, hB, e, H, h1, h2 => by
    obtain ⟨e1, e2⟩ := mplay_ext hB e ((1 : Int32) <<< (nI a &&& 31))
    have hca : canB (c (9 + a)) (c (17 + a)) = true := by
      rw [Nb_can H ha, decide_eq_true (by omega), decide_eq_true (by omega)]; rfl
    have ef : ∀ m, m < 4 → spk c ((1 : Int32) <<< (nI a &&& 31)) m = decide (m = a) := fun m hm => by
      rw [spk_o ha hm]
      by_cases q : m = a
      · rw [q, hca, Bool.and_true]
      · rw [decide_eq_false q]; rfl
    have N1 := Nb_play (f := fun m => decide (m = a)) H ef
    have hw : ¬ mwho h b ((1 : Int32) <<< (nI a &&& 31)) = 0 := by
      rw [e2]
      exact who_nz ha (by rw [ef a ha, decide_eq_true rfl])
    have fa : (nxN (B a) (R a) (decide (a = a)) (A a) (E a)).1 = A a - 1 := by rw [decide_eq_true rfl]; rfl
    have fe : (nxN (B a) (R a) (decide (a = a)) (A a) (E a)).2 = 0 := by rw [decide_eq_true rfl]; rfl
    have fw : (bif decide (a = a) then W a - 1 else W a) = W a - 1 := by rw [decide_eq_true rfl]; rfl
    obtain ⟨b', c', A', E', W', k1, k2, k3, k4, k5, k6, k7, k8⟩ := mL_ok Rk ha l (mplay h b ((1 : Int32) <<< (nI a &&& 31))) (play h c ((1 : Int32) <<< (nI a &&& 31))) _ _ _ (Bok_play hB Rk _) e1 N1 (by show l ≤ (nxN (B a) (R a) (decide (a = a)) (A a) (E a)).1; rw [fa]; omega) (by show l ≤ (bif decide (a = a) then W a - 1 else W a); rw [fw]; omega)
    refine ⟨b', c', A', E', W', ?_, k2, k3, k4, by rw [k5, fa]; omega, fun _ => k6 (Or.inr fe), by rw [k7, fw]; omega, fun m hm hne => ?_⟩
    · rw [mL_t, decide_eq_false hw]
      exact k1
    · obtain ⟨j1, j2⟩ := k8 m hm hne
      obtain ⟨-, -, hb, -, -, -, hv⟩ := H m hm
      have h9 := wdN_rest hb hv
      have g1 : (nxN (B m) (R m) (decide (m = a)) (A m) (E m)) = nxN (B m) (R m) false (A m) (E m) := by rw [decide_eq_false hne]
      refine ⟨?_, ?_⟩
      · rw [j1]
        show min (wdN (R m) (nxN (B m) (R m) (decide (m = a)) (A m) (E m)).1 (nxN (B m) (R m) (decide (m = a)) (A m) (E m)).2 + l) (B m * R m) = _
        rw [g1, h9]
        omega
      · rw [j2]
        show (bif decide (m = a) then _ else _) = _
        rw [decide_eq_false hne]
        rfl
theorem mL_no {h : Nat → Int32} {B R : Nat → Nat} (Rk : Rok h) {a : Nat} (ha : a < 4) : ∀ (l : Nat) (b c : Nat → Int32) (A E W : Nat → Nat), Bok h c → Eq25 b c → Nb h c B R A E W → ¬ (l ≤ A a ∧ l ≤ W a) → (mL h ((1 : Int32) <<< (nI a &&& 31)) l b true).2 = false
  | 0, _, _, _, _, _, _, _, _, h1 => absurd ⟨Nat.zero_le _, Nat.zero_le _⟩ h1
  | l + 1, b, c, A, E, W, hB, e, H, h1 => by
    obtain ⟨e1, e2⟩ := mplay_ext hB e ((1 : Int32) <<< (nI a &&& 31))
    rw [mL_t]
    by_cases hc : 0 < A a ∧ 0 < W a
    · have hca : canB (c (9 + a)) (c (17 + a)) = true := by
        rw [Nb_can H ha, decide_eq_true hc.1, decide_eq_true hc.2]; rfl
      have ef : ∀ m, m < 4 → spk c ((1 : Int32) <<< (nI a &&& 31)) m = decide (m = a) := fun m hm => by
        rw [spk_o ha hm]
        by_cases q : m = a
        · rw [q, hca, Bool.and_true]
        · rw [decide_eq_false q]; rfl
      have N1 := Nb_play (f := fun m => decide (m = a)) H ef
      have hw : ¬ mwho h b ((1 : Int32) <<< (nI a &&& 31)) = 0 := by
        rw [e2]
        exact who_nz ha (by rw [ef a ha, decide_eq_true rfl])
      have fa : (nxN (B a) (R a) (decide (a = a)) (A a) (E a)).1 = A a - 1 := by rw [decide_eq_true rfl]; rfl
      have fw : (bif decide (a = a) then W a - 1 else W a) = W a - 1 := by rw [decide_eq_true rfl]; rfl
      rw [decide_eq_false hw]
      exact mL_no Rk ha l _ _ _ _ _ (Bok_play hB Rk _) e1 N1 (by rw [fa, fw]; omega)
    · have ef : ∀ m, m < 4 → spk c ((1 : Int32) <<< (nI a &&& 31)) m = false := fun m hm => by
        rw [spk_o ha hm]
        by_cases q : m = a
        · rw [q, Nb_can H ha]
          by_cases q1 : 0 < A a
          · rw [decide_eq_false (show ¬ 0 < W a from fun z => hc ⟨q1, z⟩), Bool.and_false, Bool.and_false]
          · rw [decide_eq_false q1, Bool.false_and, Bool.and_false]
        · rw [decide_eq_false q]; rfl
      rw [e2, who_z ef]
      exact mL_f l
theorem mF_f {h : Nat → Int32} {gN lN : Nat → Nat} {w : Int32} {b : Nat → Int32} {i : Nat} : ∀ k, (mF h gN lN w k i b false).2 = false
  | 0 => rfl
  | _ + 1 => rfl
theorem spv_N {n t : Nat} (hn : n < 2 ^ 31) (ht : t < 2 ^ 31) : ∀ i, spv (nI n) (nI t) i = nI (t / n ^ i)
  | 0 => by rw [Nat.pow_zero, Nat.div_one]; rfl
  | i + 1 => by
    rw [spv_s, spv_N hn ht i, nI_div (Nat.lt_of_le_of_lt (Nat.div_le_self _ _) ht) hn, Nat.div_div_eq_div_mul, ← Nat.pow_succ]
theorem spI_N {n t : Nat} (h0 : 0 < n) (hn : n < 2 ^ 31) (ht : t < 2 ^ 31) (i : Nat) : spI (nI n) (nI t) i = nI (t / n ^ i % n) := by
  unfold spI
  rw [spv_N hn ht i]
  exact pk_rem (Nat.lt_of_le_of_lt (Nat.div_le_self _ _) ht) h0 hn
theorem mF_N {h : Nat → Int32} {B R gN lN : Nat → Nat} (Rk : Rok h) {n t c : Nat} (hn0 : 0 < n) (hn : n ≤ 4) (h0 : h 0 = nI n) (hR : ∀ m, m < n → 1 ≤ R m) (ht : t < 2 ^ 31) (hl : ∀ i, i < c → 1 ≤ lN i) : ∀ (k i bef : Nat) (b bk : Nat → Int32) (A E W wv dv : Nat → Nat), i + k ≤ c → (bef = if i = 0 then 99 else t / n ^ (i - 1) % n) → Bok h bk → Eq25 b bk → Nb h bk B R A E W → (∀ m, m < 4 → wv m = wdN (R m) (A m) (E m) ∧ dv m = W m) → (mF h gN lN (nI t) k i b true).2 = okT n B R gN lN k i bef wv dv (t / n ^ i)
  | 0, _, _, _, _, _, _, _, _, _, _, _, _, _, _, _ => rfl
  | k + 1, i, bef, b, bk, A, E, W, wv, dv, hik, hbef, hB, e, H, hv => by
    have hdig : t / n ^ i % n < n := Nat.mod_lt _ hn0
    generalize hm0 : t / n ^ i % n = a at hdig
    have ha : a < 4 := by omega
    have hsp : spI (h 0) (nI t) i = nI a := by rw [h0, spI_N hn0 (by omega) ht, hm0]
    have hq : mgB gN (h 0) (nI t) i = qBn gN i bef a := by
      unfold mgB qBn
      rw [hsp]
      by_cases hi : i = 0
      · subst hi
        rw [decide_eq_true rfl, hbef, if_pos rfl, decide_eq_false (show ¬ a = 99 by omega)]
        simp
      · rw [decide_eq_false hi, h0, spI_N hn0 (by omega) ht, hbef, if_neg hi]
        have e1 : decide (nI (t / n ^ (i - 1) % n) = nI a) = decide (a = t / n ^ (i - 1) % n) := by
          refine decide_eq_decide.mpr ⟨fun q => ?_, fun q => by rw [q]⟩
          have hlt := Nat.mod_lt (t / n ^ (i - 1)) hn0
          exact ((nI_eq (by omega) (by omega)).mp q).symm
        rw [e1, Bool.false_or]
    obtain ⟨c1, A1, E1, j1, j2, j3, j4⟩ := mI_N Rk (gN i) b bk A E hB e H
    show (mF h gN lN (nI t) k (i + 1) (mL h ((1 : Int32) <<< (spI (h 0) (nI t) i &&& 31)) (lN i) (mI h (gN i) b) (mgB gN (h 0) (nI t) i)).1 (mL h ((1 : Int32) <<< (spI (h 0) (nI t) i &&& 31)) (lN i) (mI h (gN i) b) (mgB gN (h 0) (nI t) i)).2).2 = ((qBn gN i bef (t / n ^ i % n) && gBn B R (t / n ^ i % n) (gN i) (lN i) wv dv) && okT n B R gN lN k (i + 1) (t / n ^ i % n) (gWn B R (t / n ^ i % n) (gN i) (lN i) wv) (gDn (t / n ^ i % n) (lN i) dv) (t / n ^ i / n))
    rw [hm0, hsp, hq]
    cases hqb : qBn gN i bef a with
    | false =>
      rw [mL_f, mF_f]
      rfl
    | true =>
      obtain ⟨y1, y2, ⟨b1, b2, b3⟩, y4, y5, y6, ⟨v1, v2, v3, v4⟩⟩ := j3 a ha
      have hRa := hR a hdig
      obtain ⟨w1, w2⟩ := hv a ha
      have hair : min (wv a + gN i) (B a * R a) / R a = A1 a := by
        rw [w1, ← j4 a ha]
        exact wdN_air (v3 hRa)
      have hg : gBn B R a (gN i) (lN i) wv dv = (decide (lN i ≤ A1 a) && decide (lN i ≤ W a)) := by
        unfold gBn
        rw [hair, w2, decide_eq_true (show 0 < R a by omega), Bool.true_and]
      rw [hg]
      by_cases hok : lN i ≤ A1 a ∧ lN i ≤ W a
      · obtain ⟨b', c', A', E', W', k1, k2, k3, k4, k5, k6, k7, k8⟩ := mL_ok Rk ha (lN i) (mI h (gN i) b) c1 A1 E1 W j1 j2 j3 hok.1 hok.2
        have hli := hl i (by omega)
        rw [k1, decide_eq_true hok.1, decide_eq_true hok.2]
        show (mF h gN lN (nI t) k (i + 1) b' true).2 = okT n B R gN lN k (i + 1) a (gWn B R a (gN i) (lN i) wv) (gDn a (lN i) dv) (t / n ^ i / n)
        rw [Nat.div_div_eq_div_mul, ← Nat.pow_succ]
        refine mF_N Rk hn0 hn h0 hR ht hl k (i + 1) a b' c' A' E' W' _ _ (by omega) (by rw [if_neg (by omega), Nat.add_sub_cancel, hm0]) k2 k3 k4 (fun m hm => ?_)
        unfold gWn gDn
        by_cases em : m = a
        · subst em
          rw [if_pos rfl, if_pos rfl, hair, w2, k7]
          refine ⟨?_, rfl⟩
          unfold wdN
          rw [k5, k6 (Or.inl (by omega))]
          rfl
        · rw [if_neg em, if_neg em]
          obtain ⟨z1, z2⟩ := k8 m hm em
          obtain ⟨u1, u2⟩ := hv m hm
          rw [z1, z2, u1, u2, j4 m hm]
          exact ⟨by omega, rfl⟩
      · have hno := mL_no Rk ha (lN i) (mI h (gN i) b) c1 A1 E1 W j1 j2 j3 hok
        rw [hno, mF_f]
        by_cases q1 : lN i ≤ A1 a
        · rw [decide_eq_false (show ¬ lN i ≤ W a from fun z => hok ⟨q1, z⟩), Bool.and_false]
          rfl
        · rw [decide_eq_false q1, Bool.false_and]
          rfl
