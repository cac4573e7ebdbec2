/-! ways, counted as numbers: by hand-down and by digits -/
def sm9 (f : Nat → Nat) : Nat → Nat
  | 0 => 0
  | k + 1 => sm9 f k + f k
theorem sm_ext {f g : Nat → Nat} : ∀ k, (∀ i, i < k → f i = g i) → sm9 f k = sm9 g k
  | 0, _ => rfl
  | k + 1, h => by
    show sm9 f k + f k = sm9 g k + g k
    rw [sm_ext k (fun i hi => h i (by omega)), h k (by omega)]
theorem sm_addf (f g : Nat → Nat) : ∀ k, sm9 (fun i => f i + g i) k = sm9 f k + sm9 g k
  | 0 => rfl
  | k + 1 => by
    show sm9 (fun i => f i + g i) k + (f k + g k) = sm9 f k + f k + (sm9 g k + g k)
    rw [sm_addf f g k]
    omega
theorem sm_zero {f : Nat → Nat} : ∀ k, (∀ i, i < k → f i = 0) → sm9 f k = 0
  | 0, _ => rfl
  | k + 1, h => by
    show sm9 f k + f k = 0
    rw [sm_zero k (fun i hi => h i (by omega)), h k (by omega)]
theorem sm_split (f : Nat → Nat) (a : Nat) : ∀ b, sm9 f (a + b) = sm9 f a + sm9 (fun i => f (a + i)) b
  | 0 => rfl
  | b + 1 => by
    show sm9 f (a + b) + f (a + b) = sm9 f a + (sm9 (fun i => f (a + i)) b + f (a + b))
    rw [sm_split f a b]
    omega
theorem sm_prod (n : Nat) (G : Nat → Nat → Nat) : ∀ K, sm9 (fun t => G (t % n) (t / n)) (n * K) = sm9 (fun m => sm9 (fun u => G m u) K) n
  | 0 => (sm_zero n (fun _ _ => rfl)).symm
  | K + 1 => by
    rw [Nat.mul_succ, sm_split, sm_prod n G K]
    rw [show sm9 (fun m => sm9 (fun u => G m u) (K + 1)) n = sm9 (fun m => sm9 (fun u => G m u) K + G m K) n from rfl, sm_addf]
    congr 1
    refine sm_ext n fun i hi => ?_
    rw [Nat.mul_add_mod, Nat.mod_eq_of_lt hi, Nat.mul_add_div (by omega), Nat.div_eq_of_lt hi, Nat.add_zero]
def gBn (B R : Nat → Nat) (m g l : Nat) (wv dv : Nat → Nat) : Bool := decide (0 < R m) && (decide (l ≤ min (wv m + g) (B m * R m) / R m) && decide (l ≤ dv m))
def gWn (B R : Nat → Nat) (m g l : Nat) (wv : Nat → Nat) (j : Nat) : Nat := if j = m then (min (wv j + g) (B j * R j) / R j - l) * R j else min (wv j + (g + l)) (B j * R j)
def gDn (m l : Nat) (dv : Nat → Nat) (j : Nat) : Nat := if j = m then dv j - l else dv j
def qBn (gN : Nat → Nat) (i bef m : Nat) : Bool := decide (0 < gN i) || !decide (m = bef)
def okT (n : Nat) (B R gN lN : Nat → Nat) : Nat → Nat → Nat → (Nat → Nat) → (Nat → Nat) → Nat → Bool
  | 0, _, _, _, _, _ => true
  | k + 1, i, bef, wv, dv, t => (qBn gN i bef (t % n) && gBn B R (t % n) (gN i) (lN i) wv dv) && okT n B R gN lN k (i + 1) (t % n) (gWn B R (t % n) (gN i) (lN i) wv) (gDn (t % n) (lN i) dv) (t / n)
def fNn (B R gN lN : Nat → Nat) : Nat → Nat → Nat → (Nat → Nat) → (Nat → Nat) → Nat
  | 0, _, _, _, _ => 1
  | k + 1, i, bef, wv, dv => sm9 (fun m => bif qBn gN i bef m && gBn B R m (gN i) (lN i) wv dv then fNn B R gN lN k (i + 1) m (gWn B R m (gN i) (lN i) wv) (gDn m (lN i) dv) else 0) 4
def aNn (B R gN lN : Nat → Nat) (p : Nat) : Nat → Nat → Nat → (Nat → Nat) → (Nat → Nat) → Nat
  | 0, _, _, _, _ => 0
  | k + 1, i, bef, wv, dv => sm9 (fun m => bif qBn gN i bef m && gBn B R m (gN i) (lN i) wv dv then aNn B R gN lN p k (i + 1) m (gWn B R m (gN i) (lN i) wv) (gDn m (lN i) dv) + (if 4 * i + m = p then fNn B R gN lN k (i + 1) m (gWn B R m (gN i) (lN i) wv) (gDn m (lN i) dv) else 0) else 0) 4
theorem sm_toN (c : Bool) (f : Nat → Bool) (K : Nat) : sm9 (fun u => (c && f u).toNat) K = bif c then sm9 (fun u => (f u).toNat) K else 0 := by
  cases c with
  | true => rfl
  | false => exact sm_zero K (fun _ _ => rfl)
section
theorem sm_upto {n : Nat} (hn : n ≤ 4) {F : Nat → Nat} (hF : ∀ m, n ≤ m → F m = 0) : sm9 F 4 = sm9 F n := by
  have := sm_split F n (4 - n)
  rw [show n + (4 - n) = 4 by omega, sm_zero (4 - n) (fun i _ => hF (n + i) (by omega))] at this
  omega
theorem gB_none {B R : Nat → Nat} {m g l : Nat} {wv dv : Nat → Nat} (h : R m = 0) : gBn B R m g l wv dv = false := by
  unfold gBn
  rw [h]
  rfl
theorem fN_eq {n : Nat} {B R gN lN : Nat → Nat} (hn : n ≤ 4) (hR : ∀ m, n ≤ m → R m = 0) : ∀ (k i bef : Nat) (wv dv : Nat → Nat), fNn B R gN lN k i bef wv dv = sm9 (fun t => (okT n B R gN lN k i bef wv dv t).toNat) (n ^ k)
  | 0, _, _, _, _ => rfl
  | k + 1, i, bef, wv, dv => by
    rw [Nat.pow_succ, Nat.mul_comm]
    have h := sm_prod n (fun m u => ((qBn gN i bef m && gBn B R m (gN i) (lN i) wv dv) && okT n B R gN lN k (i + 1) m (gWn B R m (gN i) (lN i) wv) (gDn m (lN i) dv) u).toNat) (n ^ k)
    refine Eq.trans ?_ h.symm
    show sm9 (fun m => bif qBn gN i bef m && gBn B R m (gN i) (lN i) wv dv then fNn B R gN lN k (i + 1) m (gWn B R m (gN i) (lN i) wv) (gDn m (lN i) dv) else 0) 4 = _
    rw [sm_upto hn (fun m hm => by rw [gB_none (hR m hm), Bool.and_false]; rfl)]
    refine sm_ext n fun m _ => ?_
    rw [sm_toN, fN_eq hn hR k (i + 1)]
theorem aN_zero {B R gN lN : Nat → Nat} {p : Nat} : ∀ (k i bef : Nat) (wv dv : Nat → Nat), p < 4 * i → aNn B R gN lN p k i bef wv dv = 0
  | 0, _, _, _, _, _ => rfl
  | k + 1, i, bef, wv, dv, hp => by
    refine sm_zero 4 fun m _ => ?_
    rw [aN_zero k (i + 1) m _ _ (by omega), if_neg (by omega)]
    cases qBn gN i bef m && gBn B R m (gN i) (lN i) wv dv <;> rfl
theorem aN_eq {n : Nat} {B R gN lN : Nat → Nat} (hn : n ≤ 4) (hR : ∀ m, n ≤ m → R m = 0) {q mm : Nat} (hm : mm < 4) : ∀ (k i bef : Nat) (wv dv : Nat → Nat), i ≤ q → q < i + k → aNn B R gN lN (4 * q + mm) k i bef wv dv = sm9 (fun t => (okT n B R gN lN k i bef wv dv t && decide (t / n ^ (q - i) % n = mm)).toNat) (n ^ k)
  | 0, i, _, _, _, h1, h2 => absurd h2 (by omega)
  | k + 1, i, bef, wv, dv, h1, h2 => by
    rw [Nat.pow_succ, Nat.mul_comm (n ^ k) n]
    show sm9 (fun m => bif qBn gN i bef m && gBn B R m (gN i) (lN i) wv dv then aNn B R gN lN (4 * q + mm) k (i + 1) m (gWn B R m (gN i) (lN i) wv) (gDn m (lN i) dv) + (if 4 * i + m = 4 * q + mm then fNn B R gN lN k (i + 1) m (gWn B R m (gN i) (lN i) wv) (gDn m (lN i) dv) else 0) else 0) 4 = _
    rw [sm_upto hn (fun m hm => by rw [gB_none (hR m hm), Bool.and_false]; rfl)]
    by_cases e : q = i
    · subst e
      have h := sm_prod n (fun m u => ((qBn gN q bef m && gBn B R m (gN q) (lN q) wv dv && decide (m = mm)) && okT n B R gN lN k (q + 1) m (gWn B R m (gN q) (lN q) wv) (gDn m (lN q) dv) u).toNat) (n ^ k)
      refine Eq.trans ?_ (Eq.trans h.symm ?_)
      · refine sm_ext n fun m hmn => ?_
        rw [sm_toN, aN_zero k (q + 1) m _ _ (by omega), Nat.zero_add]
        by_cases em : m = mm
        · subst em
          rw [if_pos rfl, decide_eq_true rfl, Bool.and_true, fN_eq hn hR k (q + 1)]
        · rw [if_neg (by omega), decide_eq_false em, Bool.and_false]
          cases qBn gN q bef m && gBn B R m (gN q) (lN q) wv dv <;> rfl
      · refine sm_ext _ fun t _ => ?_
        show ((qBn gN q bef (t % n) && gBn B R (t % n) (gN q) (lN q) wv dv && decide (t % n = mm)) && okT n B R gN lN k (q + 1) (t % n) (gWn B R (t % n) (gN q) (lN q) wv) (gDn (t % n) (lN q) dv) (t / n)).toNat = _
        rw [Nat.sub_self, Nat.pow_zero, Nat.div_one]
        show _ = (((qBn gN q bef (t % n) && gBn B R (t % n) (gN q) (lN q) wv dv) && okT n B R gN lN k (q + 1) (t % n) (gWn B R (t % n) (gN q) (lN q) wv) (gDn (t % n) (lN q) dv) (t / n)) && decide (t % n = mm)).toNat
        rw [Bool.and_right_comm]
    · have h := sm_prod n (fun m u => ((qBn gN i bef m && gBn B R m (gN i) (lN i) wv dv) && (okT n B R gN lN k (i + 1) m (gWn B R m (gN i) (lN i) wv) (gDn m (lN i) dv) u && decide (u / n ^ (q - (i + 1)) % n = mm))).toNat) (n ^ k)
      refine Eq.trans ?_ (Eq.trans h.symm ?_)
      · refine sm_ext n fun m hmn => ?_
        rw [sm_toN, if_neg (by omega), Nat.add_zero, aN_eq hn hR hm k (i + 1) m _ _ (by omega) (by omega)]
      · refine sm_ext _ fun t _ => ?_
        show ((qBn gN i bef (t % n) && gBn B R (t % n) (gN i) (lN i) wv dv) && (okT n B R gN lN k (i + 1) (t % n) (gWn B R (t % n) (gN i) (lN i) wv) (gDn (t % n) (lN i) dv) (t / n) && decide (t / n / n ^ (q - (i + 1)) % n = mm))).toNat = _
        rw [Nat.div_div_eq_div_mul, Nat.mul_comm n, ← Nat.pow_succ, show (q - (i + 1)).succ = q - i by omega]
        show _ = (((qBn gN i bef (t % n) && gBn B R (t % n) (gN i) (lN i) wv dv) && okT n B R gN lN k (i + 1) (t % n) (gWn B R (t % n) (gN i) (lN i) wv) (gDn (t % n) (lN i) dv) (t / n)) && decide (t / n ^ (q - i) % n = mm)).toNat
        simp only [Bool.and_assoc]
end
/-! the class's hand-down -/
theorem rsI_N {b r w t : Nat} (h1 : b * r < 2 ^ 31) (h2 : w + t < 2 ^ 31) : rsI (nI b) (nI r) (nI w) (nI t) = nI (min (w + t) (b * r)) := by
  unfold rsI
  rw [nI_mul, nI_add]
  by_cases h : b * r < w + t
  · rw [if_pos (nI_lt h h2), Nat.min_eq_right (Nat.le_of_lt h)]
  · rw [if_neg (nI_nlt (by omega) h1), Nat.min_eq_left (by omega)]
theorem aiT_N {b r w t : Nat} (h1 : b * r < 2 ^ 31) (h2 : w + t < 2 ^ 31) (h3 : r < 2 ^ 31) : aiT (nI b) (nI r) (nI w) (nI t) = nI (min (w + t) (b * r) / r) := by
  unfold aiT
  rw [rsI_N h1 h2, nI_div (by omega) h3]
theorem gvB_N {b r w d t l : Nat} (h1 : b * r < 2 ^ 31) (h2 : w + t < 2 ^ 31) (h3 : r < 2 ^ 31) (h4 : d < 2 ^ 31) (h5 : l < 2 ^ 31) : gvB (nI b) (nI r) (nI w) (nI d) (nI t) (nI l) = (decide (0 < r) && (decide (l ≤ min (w + t) (b * r) / r) && decide (l ≤ d))) := by
  unfold gvB
  rw [aiT_N h1 h2 h3]
  have h6 : min (w + t) (b * r) / r < 2 ^ 31 := Nat.lt_of_le_of_lt (Nat.div_le_self _ _) (by omega)
  have e1 : decide ((0 : Int32) < nI r) = decide (0 < r) := decide_eq_decide.mpr (nI_ltI (a := 0) (by decide) h3)
  have e2 : decide (nI (min (w + t) (b * r) / r) < nI l) = decide (min (w + t) (b * r) / r < l) := decide_eq_decide.mpr (nI_ltI h6 h5)
  have e3 : decide (nI l ≤ nI d) = decide (l ≤ d) := decide_eq_decide.mpr (nI_leI h5 h4)
  rw [e1, e2, e3, Bool.and_assoc]
  congr 2
  by_cases q : l ≤ min (w + t) (b * r) / r
  · rw [decide_eq_true q, decide_eq_false (by omega)]; rfl
  · rw [decide_eq_false q, decide_eq_true (by omega)]; rfl
theorem wS_N {F : Nat → Int32} {q : Nat → Bool} {F' : Nat → Nat} : ∀ M, (∀ m, m < M → (bif q m then F m else 0) = nI (F' m)) → wS F q M = nI (sm9 F' M)
  | 0, _ => rfl
  | M + 1, h => by
    have ih := wS_N M (fun m hm => h m (by omega))
    have hM := h M (by omega)
    show (bif q M then wS F q M + F M else wS F q M) = nI (sm9 F' M + F' M)
    cases hq : q M with
    | true =>
      rw [hq] at hM
      have hM : F M = nI (F' M) := hM
      show wS F q M + F M = _
      rw [ih, hM, nI_add]
    | false =>
      rw [hq] at hM
      have hM : (0 : Int32) = nI (F' M) := hM
      show wS F q M = _
      rw [ih, ← nI_add, ← hM, Int32.add_zero]
def Hn9 (h : Nat → Int32) (B R : Nat → Nat) : Prop := ∀ m, m < 4 → h (2 + m) = nI (B m) ∧ h (6 + m) = nI (R m) ∧ B m ≤ 4 ∧ R m ≤ 3
def Vn9 (w d : Nat → Int32) (wv dv : Nat → Nat) : Prop := ∀ m, m < 4 → w m = nI (wv m) ∧ wv m ≤ 12 ∧ d m = nI (dv m) ∧ dv m ≤ 99
theorem BR_12 {B R : Nat} (h1 : B ≤ 4) (h2 : R ≤ 3) : B * R ≤ 12 := Nat.mul_le_mul h1 h2
theorem gv_4 (f : Nat → Int32) {j : Nat} (hj : j < 4) : gi [f 0, f 1, f 2, f 3] j = f j := by
  match j, hj with
  | 0, _ => rfl
  | 1, _ => rfl
  | 2, _ => rfl
  | 3, _ => rfl
theorem Vn_next {h w d : Nat → Int32} {B R wv dv : Nat → Nat} (HH : Hn9 h B R) (V : Vn9 w d wv dv) {m g l : Nat} (hg : g ≤ 9) (hl : l ≤ 4) (ok : gBn B R m g l wv dv = true) (hm : m < 4) : Vn9 (gvW h m (nI g) (nI l) w) (gvD m (nI l) d) (gWn B R m g l wv) (gDn m l dv) := by
  intro j hj
  obtain ⟨a1, a2, a3, a4⟩ := HH j hj
  obtain ⟨b1, b2, b3, b4⟩ := V j hj
  have hBR := BR_12 a3 a4
  have e1 : gvW h m (nI g) (nI l) w j = gvE h m (nI g) (nI l) w j := gv_4 (gvE h m (nI g) (nI l) w) hj
  have e2 : gvD m (nI l) d j = gvF m (nI l) d j := gv_4 (gvF m (nI l) d) hj
  rw [e1, e2]
  by_cases e : j = m
  · subst e
    obtain ⟨k1, k2⟩ := Bool.and_eq_true_iff.mp ok
    obtain ⟨k2, k3⟩ := Bool.and_eq_true_iff.mp k2
    have k1 := of_decide_eq_true k1
    have k2 := of_decide_eq_true k2
    have k3 := of_decide_eq_true k3
    rw [gvE_s (Nat.beq_refl j), gvF_s (Nat.beq_refl j), a1, a2, b1, b3, aiT_N (by omega) (by omega) (by omega), nI_sub k2, nI_mul, nI_sub k3]
    unfold gWn gDn
    rw [if_pos rfl, if_pos rfl]
    refine ⟨rfl, ?_, rfl, by omega⟩
    have h1 : (min (wv j + g) (B j * R j) / R j - l) * R j ≤ min (wv j + g) (B j * R j) / R j * R j := Nat.mul_le_mul_right _ (Nat.sub_le _ _)
    have h2 := Nat.div_mul_le_self (min (wv j + g) (B j * R j)) (R j)
    omega
  · have eb : Nat.beq m j = false := by
      cases hb : Nat.beq m j with
      | false => rfl
      | true => exact absurd (Nat.eq_of_beq_eq_true hb).symm e
    rw [gvE_n eb, gvF_n eb, a1, a2, b1, b3, nI_add, rsI_N (by omega) (by omega)]
    unfold gWn gDn
    rw [if_neg e, if_neg e]
    exact ⟨rfl, by omega, rfl, b4⟩
theorem wQ_N {gs : List Int32} {gN : Nat → Nat} {i bef m : Nat} {befI : Int32} (hg : gi gs i = nI (gN i) ∧ gN i ≤ 9) (hb : ∀ m, m < 4 → (nI m = befI ↔ m = bef)) (hm : m < 4) : wQ gs i befI m = qBn gN i bef m := by
  unfold wQ qBn
  rw [hg.1]
  have e1 : decide ((0 : Int32) < nI (gN i)) = decide (0 < gN i) := decide_eq_decide.mpr (nI_ltI (a := 0) (by decide) (by omega))
  rw [e1, decide_eq_decide.mpr (hb m hm)]
theorem wF_N {h : Nat → Int32} {gs ls : List Int32} {B R gN lN : Nat → Nat} (HH : Hn9 h B R) : ∀ (k i bef : Nat) (befI : Int32) (w d : Nat → Int32) (wv dv : Nat → Nat), (∀ j, i ≤ j → j < i + k → (gi gs j = nI (gN j) ∧ gN j ≤ 9) ∧ (gi ls j = nI (lN j) ∧ lN j ≤ 4)) → (∀ m, m < 4 → (nI m = befI ↔ m = bef)) → Vn9 w d wv dv → wFn h gs ls k i befI w d = nI (fNn B R gN lN k i bef wv dv)
  | 0, _, _, _, _, _, _, _, _, _, _ => rfl
  | k + 1, i, bef, befI, w, d, wv, dv, hgl, hb, V => by
    rw [wFn_s]
    refine wS_N 4 fun m hm => ?_
    obtain ⟨g1, g2⟩ := hgl i (Nat.le_refl _) (by omega)
    obtain ⟨a1, a2, a3, a4⟩ := HH m hm
    obtain ⟨b1, b2, b3, b4⟩ := V m hm
    have hBR := BR_12 a3 a4
    rw [wQ_N g1 hb hm]
    unfold wTr
    rw [a1, a2, b1, b3, g1.1, g2.1, gvB_N (by omega) (by omega) (by omega) (by omega) (by omega)]
    show _ = nI (bif qBn gN i bef m && gBn B R m (gN i) (lN i) wv dv then _ else 0)
    cases qBn gN i bef m with
    | false => rfl
    | true =>
      show (bif gBn B R m (gN i) (lN i) wv dv then _ else 0) = nI (bif gBn B R m (gN i) (lN i) wv dv then _ else 0)
      cases hok : gBn B R m (gN i) (lN i) wv dv with
      | false => rfl
      | true =>
        exact wF_N HH k (i + 1) m (nI m) _ _ _ _ (fun j j1 j2 => hgl j (by omega) (by omega)) (fun m' hm' => nI_eq (by omega) (by omega)) (Vn_next HH V g1.2 g2.2 hok hm)
theorem wA_N {h : Nat → Int32} {gs ls : List Int32} {B R gN lN : Nat → Nat} (HH : Hn9 h B R) (p : Nat) : ∀ (k i bef : Nat) (befI : Int32) (w d : Nat → Int32) (wv dv : Nat → Nat), (∀ j, i ≤ j → j < i + k → (gi gs j = nI (gN j) ∧ gN j ≤ 9) ∧ (gi ls j = nI (lN j) ∧ lN j ≤ 4)) → (∀ m, m < 4 → (nI m = befI ↔ m = bef)) → Vn9 w d wv dv → wAn h gs ls k i befI w d p = nI (aNn B R gN lN p k i bef wv dv)
  | 0, _, _, _, _, _, _, _, _, _, _ => rfl
  | k + 1, i, bef, befI, w, d, wv, dv, hgl, hb, V => by
    rw [wAn_s]
    refine wS_N 4 fun m hm => ?_
    obtain ⟨g1, g2⟩ := hgl i (Nat.le_refl _) (by omega)
    obtain ⟨a1, a2, a3, a4⟩ := HH m hm
    obtain ⟨b1, b2, b3, b4⟩ := V m hm
    have hBR := BR_12 a3 a4
    rw [wQ_N g1 hb hm]
    unfold wTa
    rw [a1, a2, b1, b3, g1.1, g2.1, gvB_N (by omega) (by omega) (by omega) (by omega) (by omega)]
    show _ = nI (bif qBn gN i bef m && gBn B R m (gN i) (lN i) wv dv then _ else 0)
    cases qBn gN i bef m with
    | false => rfl
    | true =>
      show (bif gBn B R m (gN i) (lN i) wv dv then _ else 0) = nI (bif gBn B R m (gN i) (lN i) wv dv then _ else 0)
      cases hok : gBn B R m (gN i) (lN i) wv dv with
      | false => rfl
      | true =>
        have r1 := wA_N (gs := gs) (ls := ls) (gN := gN) (lN := lN) HH p k (i + 1) m (nI m) _ _ _ _ (fun j j1 j2 => hgl j (by omega) (by omega)) (fun m' hm' => nI_eq (by omega) (by omega)) (Vn_next HH V g1.2 g2.2 hok hm)
        have r2 := wF_N (gs := gs) (ls := ls) (gN := gN) (lN := lN) HH k (i + 1) m (nI m) _ _ _ _ (fun j j1 j2 => hgl j (by omega) (by omega)) (fun m' hm' => nI_eq (by omega) (by omega)) (Vn_next HH V g1.2 g2.2 hok hm)
        show wAn h gs ls k (i + 1) (nI m) _ _ p + (if 4 * i + m = p then wFn h gs ls k (i + 1) (nI m) _ _ else 0) = nI (_ + (if 4 * i + m = p then _ else 0))
        rw [r1, r2]
        by_cases e : 4 * i + m = p
        · rw [if_pos e, if_pos e, nI_add]
        · rw [if_neg e, if_neg e, Int32.add_zero]; rfl
