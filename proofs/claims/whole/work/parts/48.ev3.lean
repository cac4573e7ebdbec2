def mM (z : Nat → Int32) (x : Int32) : Pe := .inl (7, [.ref 501, .int (z 1), .ref 502, .ref 503, .ref 504, .ref 505, .ref 506, .ref 507, .ref 508, .ref 509, .ref 510, .int (z 11), .ref 511, .ref 512, .int (z 14), .int (z 15), .int (z 16), .int (z 17), .int (z 18), .int (z 19), .int (z 20), .int (z 21), .int (z 22), .int (z 23), .ref 513, .ref 514, .int x])
def fiT (h : Nat → Int32) (q : Int32) : Nat → Int32
  | 0 => 0
  | m + 1 => fiT h q m + (bif hB q (nI m) then nI (15 ^ m * 3) * h (2 + m) else 0)
def fiN (B : Nat → Nat) (bs : Nat → Bool) : Nat := (bif bs 0 then 3 * B 0 else 0) + (bif bs 1 then 45 * B 1 else 0) + (bif bs 2 then 675 * B 2 else 0) + (bif bs 3 then 10125 * B 3 else 0)
theorem fi_b {b : Bool} {c B : Nat} {x : Int32} (hx : x = nI B) : (bif b then nI c * x else 0) = nI (bif b then c * B else 0) := by
  cases b
  · rfl
  · show nI c * x = nI (c * B)
    rw [hx, nI_mul]
theorem fiT_N {h : Nat → Int32} {q : Int32} {B R : Nat → Nat} {bs : Nat → Bool} (H : Hs h q B R bs) : fiT h q 4 = nI (fiN B bs) := by
  show 0 + (bif hB q (nI 0) then nI 3 * h 2 else 0) + (bif hB q (nI 1) then nI 45 * h 3 else 0) + (bif hB q (nI 2) then nI 675 * h 4 else 0) + (bif hB q (nI 3) then nI 10125 * h 5 else 0) = nI _
  rw [← (H 0 (by decide)).2.2.2.2.1, ← (H 1 (by decide)).2.2.2.2.1, ← (H 2 (by decide)).2.2.2.2.1, ← (H 3 (by decide)).2.2.2.2.1, fi_b (show h 2 = nI (B 0) from (H 0 (by decide)).1), fi_b (show h 3 = nI (B 1) from (H 1 (by decide)).1), fi_b (show h 4 = nI (B 2) from (H 2 (by decide)).1), fi_b (show h 5 = nI (B 3) from (H 3 (by decide)).1), Int32.zero_add, nI_pl, nI_pl, nI_pl]
  rfl
theorem fiN_ok {h : Nat → Int32} {q : Int32} {B R : Nat → Nat} {bs : Nat → Bool} (H : Hs h q B R bs) : Vs B R bs (fiN B bs) := by
  have b0 := (H 0 (by decide)).2.1
  have b1 := (H 1 (by decide)).2.1
  have b2 := (H 2 (by decide)).2.1
  have b3 := (H 3 (by decide)).2.1
  have r : ∀ m, m < 4 → bs m = true → 1 ≤ R m := fun m hm => (H m hm).2.2.2.2.2
  have K : ∀ (b : Bool) (x : Nat), x ≤ 4 → ∃ d, (d = 3 * x ∨ d = 0) ∧ (bif b then 3 * x else 0) = d ∧ (bif b then 45 * x else 0) = 15 * d ∧ (bif b then 675 * x else 0) = 225 * d ∧ (bif b then 10125 * x else 0) = 3375 * d := by
    intro b x hx
    cases b
    · exact ⟨0, Or.inr rfl, rfl, rfl, rfl, rfl⟩
    · exact ⟨3 * x, Or.inl rfl, rfl, by show 45 * x = _; omega, by show 675 * x = _; omega, by show 10125 * x = _; omega⟩
  obtain ⟨d0, k0, e0, -, -, -⟩ := K (bs 0) (B 0) b0
  obtain ⟨d1, k1, -, e1, -, -⟩ := K (bs 1) (B 1) b1
  obtain ⟨d2, k2, -, -, e2, -⟩ := K (bs 2) (B 2) b2
  obtain ⟨d3, k3, -, -, -, e3⟩ := K (bs 3) (B 3) b3
  have ef : fiN B bs = d0 + 15 * d1 + 225 * d2 + 3375 * d3 := by unfold fiN; rw [e0, e1, e2, e3]
  rw [ef]
  have g0 : dg (d0 + 15 * d1 + 225 * d2 + 3375 * d3) 0 = d0 := by rw [dg0]; omega
  have g1 : dg (d0 + 15 * d1 + 225 * d2 + 3375 * d3) 1 = d1 := by rw [dg1]; omega
  have g2 : dg (d0 + 15 * d1 + 225 * d2 + 3375 * d3) 2 = d2 := by rw [dg2]; omega
  have g3 : dg (d0 + 15 * d1 + 225 * d2 + 3375 * d3) 3 = d3 := by rw [dg3]; omega
  refine ⟨by omega, fun m hm => ?_⟩
  match m, hm with
  | 0, _ => rw [g0]; exact ⟨by omega, fun hb => by have := r 0 (by decide) hb; omega⟩
  | 1, _ => rw [g1]; exact ⟨by omega, fun hb => by have := r 1 (by decide) hb; omega⟩
  | 2, _ => rw [g2]; exact ⟨by omega, fun hb => by have := r 2 (by decide) hb; omega⟩
  | 3, _ => rw [g3]; exact ⟨by omega, fun hb => by have := r 3 (by decide) hb; omega⟩
/-- how many of the first n entries are x -/
def cnt (x : Int32) (l : List Int32) : Nat → Nat
  | 0 => 0
  | n + 1 => cnt x l n + (if gi l n = x then 1 else 0)
theorem cnt_le (x : Int32) (l : List Int32) (n : Nat) : cnt x l n ≤ n := by
  induction n with
  | zero => exact Nat.le_refl 0
  | succ n ih => show cnt x l n + _ ≤ n + 1; split <;> omega
theorem cnt_pos {x : Int32} {l : List Int32} {n y : Nat} (hy : y < n) (h : gi l y = x) : 1 ≤ cnt x l n := by
  induction n with
  | zero => omega
  | succ n ih =>
    show 1 ≤ cnt x l n + _
    by_cases e : y = n
    · rw [← e, if_pos h]; omega
    · have := ih (by omega); omega
theorem cnt_same {x v : Int32} {l : List Int32} {n y : Nat} (hy : n ≤ y) : cnt x (l.set y v) n = cnt x l n := by
  induction n with
  | zero => rfl
  | succ n ih =>
    show cnt x (l.set y v) n + (if gi (l.set y v) n = x then 1 else 0) = cnt x l n + _
    rw [ih (by omega), gi_set_ne (by omega)]
theorem cnt_dec {x v : Int32} {l : List Int32} {n y : Nat} (hy : y < n) (hl : y < l.length) (h : gi l y = x) (hv : ¬ v = x) : cnt x (l.set y v) n + 1 = cnt x l n := by
  induction n with
  | zero => omega
  | succ n ih =>
    show cnt x (l.set y v) n + (if gi (l.set y v) n = x then 1 else 0) + 1 = cnt x l n + (if gi l n = x then 1 else 0)
    by_cases e : y = n
    · subst e
      rw [cnt_same (Nat.le_refl y), gi_set_eq hl, if_neg hv, if_pos h]
    · have := ih (by omega)
      rw [gi_set_ne e]
      omega
def Lv (B R : Nat → Nat) (bs : Nat → Bool) (n x : Nat) : Prop := ∃ P : Nat → Prop, P x ∧ ∀ y, P y → ∃ m, m < n ∧ bs m = true ∧ ∃ y', gst B R bs m y = some y' ∧ P y'
theorem Lv_next {B R : Nat → Nat} {bs : Nat → Bool} {n x : Nat} (h : Lv B R bs n x) : ∃ m, m < n ∧ bs m = true ∧ ∃ y, gst B R bs m x = some y ∧ Lv B R bs n y := by
  obtain ⟨P, h1, h2⟩ := h
  obtain ⟨m, a, b, y, c, d⟩ := h2 x h1
  exact ⟨m, a, b, y, c, P, d, h2⟩
/-- the first K entries of ss are unlike valid states, met just these -/
def Bf (B R : Nat → Nat) (bs : Nat → Bool) (f : Nat) (K : Nat) (ss mt : List Int32) : Prop :=
  ss.length = 50625 ∧ mt.length = 50625 ∧ 1 ≤ K ∧ K + cnt 0 mt 50625 = 50625 ∧ (∀ i, i < K → ∃ x, gi ss i = nI x ∧ Vs B R bs x ∧ gi mt x = 1) ∧ (∀ x, x < 50625 → gi mt x = 0 ∨ (gi mt x = 1 ∧ ∃ j, j < K ∧ gi ss j = nI x)) ∧ gi ss 0 = nI f
/-- what has been looked at is closed -/
def Cl (B R : Nat → Nat) (bs : Nat → Bool) (n : Nat) (k : Nat) (ss mt : List Int32) : Prop := ∀ i, i < k → ∀ x, gi ss i = nI x → Vs B R bs x → ∀ m, m < n → bs m = true → ∀ y, gst B R bs m x = some y → gi mt y = 1
def Cm (B R : Nat → Nat) (bs : Nat → Bool) (n : Nat) (x m0 : Nat) (mt : List Int32) : Prop := ∀ m, m < m0 → m < n → bs m = true → ∀ y, gst B R bs m x = some y → gi mt y = 1
section
variable {B R : Nat → Nat} {bs : Nat → Bool} {f K n k : Nat} {ss mt : List Int32}
theorem Bf_K (h : Bf B R bs f K ss mt) : K ≤ 50625 := by have := h.2.2.2.1; omega
theorem Bf_new (h : Bf B R bs f K ss mt) {y : Nat} (hy : Vs B R bs y) (h0 : gi mt y = 0) : K < 50625 ∧ Bf B R bs f (K + 1) (ss.set K (nI y)) (mt.set y 1) := by
  obtain ⟨h1, h2, h3, h4, h5, h6, h7⟩ := h
  have hp := cnt_pos (x := 0) (l := mt) hy.1 h0
  have hd := cnt_dec (x := 0) (v := 1) (l := mt) hy.1 (by rw [h2]; exact hy.1) h0 (by decide)
  have hK : K < 50625 := by omega
  have up : ∀ x, gi mt x = 1 → gi (mt.set y 1) x = 1 := by
    intro x hx
    by_cases e : y = x
    · rw [← e, gi_set_eq (by rw [h2]; exact hy.1)]
    · rw [gi_set_ne e]; exact hx
  refine ⟨hK, by rw [List.length_set]; exact h1, by rw [List.length_set]; exact h2, by omega, by omega, fun i hi => ?_, fun x hx => ?_, by rw [gi_set_ne (by omega)]; exact h7⟩
  · by_cases e : i = K
    · subst e
      exact ⟨y, gi_set_eq (by rw [h1]; exact hK), hy, gi_set_eq (by rw [h2]; exact hy.1)⟩
    · obtain ⟨x, g1, g2, g3⟩ := h5 i (by omega)
      exact ⟨x, by rw [gi_set_ne (by omega)]; exact g1, g2, up x g3⟩
  · by_cases e : y = x
    · right
      subst e
      exact ⟨gi_set_eq (by rw [h2]; exact hy.1), K, by omega, gi_set_eq (by rw [h1]; exact hK)⟩
    · rw [gi_set_ne e]
      rcases h6 x hx with g | ⟨g, j, hj, ej⟩
      · exact Or.inl g
      · exact Or.inr ⟨g, j, by omega, by rw [gi_set_ne (by omega)]; exact ej⟩
theorem up_set {y : Nat} (hy : y < mt.length) {x : Nat} (hx : gi mt x = 1) : gi (mt.set y 1) x = 1 := by
  by_cases e : y = x
  · rw [← e, gi_set_eq hy]
  · rw [gi_set_ne e]; exact hx
theorem Cl_new (hk : k ≤ K) (h : Cl B R bs n k ss mt) {y : Nat} (hy : y < mt.length) : Cl B R bs n k (ss.set K (nI y)) (mt.set y 1) := by
  intro i hi x hx hv m hm hb y' hg
  exact up_set hy (h i hi x (by rw [gi_set_ne (by omega)] at hx; exact hx) hv m hm hb y' hg)
theorem Cm_new {x m0 : Nat} (h : Cm B R bs n x m0 mt) {y : Nat} (hy : y < mt.length) : Cm B R bs n x m0 (mt.set y 1) := fun m a b c y' d => up_set hy (h m a b c y' d)
theorem Cm_s {x m0 : Nat} (h : Cm B R bs n x m0 mt) (h2 : m0 < n → bs m0 = true → ∀ y, gst B R bs m0 x = some y → gi mt y = 1) : Cm B R bs n x (m0 + 1) mt := by
  intro m a b c y d
  by_cases e : m = m0
  · subst e; exact h2 b c y d
  · exact h m (by omega) b c y d
theorem nI_ij {a b : Nat} (ha : a < 2 ^ 31) (hb : b < 2 ^ 31) (h : nI a = nI b) : a = b := by
  have := congrArg Int32.toInt h
  rw [nI_toInt ha, nI_toInt hb] at this
  omega
theorem Cl_s {x : Nat} (h : Cl B R bs n k ss mt) (hx : gi ss k = nI x) (hx9 : x < 50625) (h2 : Cm B R bs n x 4 mt) (hn : n ≤ 4) : Cl B R bs n (k + 1) ss mt := by
  intro i hi x' hx' hv m hm hb y hg
  by_cases e : i = k
  · subst e
    have : x' = x := nI_ij (by have := hv.1; omega) (by omega) (hx'.symm.trans hx)
    subst this
    exact h2 m (by omega) hm hb y hg
  · exact h i (by omega) x' hx' hv m hm hb y hg
end
/-- between two passes: marks 0, 1, 2; who lives is not struck out -/
def Pr (B R : Nat → Nat) (bs : Nat → Bool) (n K : Nat) (ss mt : List Int32) : Prop := ss.length = 50625 ∧ mt.length = 50625 ∧ K ≤ 50625 ∧ (∀ i, i < K → ∃ x, gi ss i = nI x ∧ Vs B R bs x ∧ ¬ gi mt x = 0 ∧ (Lv B R bs n x → gi mt x = 1)) ∧ (∀ i, i < K → ∀ x, gi ss i = nI x → Vs B R bs x → ∀ m, m < n → bs m = true → ∀ y, gst B R bs m x = some y → Vs B R bs y ∧ ∃ j, j < K ∧ gi ss j = nI y)
theorem hnx_y {B R : Nat → Nat} {bs : Nat → Bool} {n : Nat} {mt : List Int32} {s m y : Nat} (hm4 : m < 4) (hm : m < n) (hb : bs m = true) (hg : gst B R bs m s = some y) (h1 : gi mt y = 1) : hnx B R bs n mt s 4 = true := by
  have h := hnx_t (B := B) (R := R) (bs := bs) (n := n) (mt := mt) (s := s) (m := m) ((hnM_y hm hb hg).trans (decide_eq_true h1))
  have := hnx_up h (4 - (m + 1))
  rw [show m + 1 + (4 - (m + 1)) = 4 by omega] at this
  exact this
theorem hnx_ex {B R : Nat → Nat} {bs : Nat → Bool} {n : Nat} {mt : List Int32} {s : Nat} : ∀ {k : Nat}, hnx B R bs n mt s k = true → ∃ m, m < n ∧ bs m = true ∧ ∃ y, gst B R bs m s = some y ∧ gi mt y = 1 := by
  intro k
  induction k with
  | zero => intro h; cases h
  | succ k ih =>
    intro h
    have h' : (hnx B R bs n mt s k || hnM B R bs n mt s k) = true := h
    cases h1 : hnx B R bs n mt s k with
    | true => exact ih h1
    | false =>
      rw [h1, Bool.false_or] at h'
      unfold hnM at h'
      obtain ⟨a, b⟩ := Bool.and_eq_true_iff.mp h'
      obtain ⟨c, d⟩ := Bool.and_eq_true_iff.mp b
      cases hg : gst B R bs k s with
      | none => rw [hg] at d; cases d
      | some y =>
        rw [hg] at d
        exact ⟨k, of_decide_eq_true a, c, y, hg, of_decide_eq_true d⟩
section
variable {B R : Nat → Nat} {bs : Nat → Bool} {n K : Nat} {ss mt : List Int32}
theorem Pr_live (hn : n ≤ 4) (h : Pr B R bs n K ss mt) {i x : Nat} (hi : i < K) (hx : gi ss i = nI x) (hv : Vs B R bs x) (hl : Lv B R bs n x) : hnx B R bs n mt x 4 = true := by
  obtain ⟨m, a, b, y, c, d⟩ := Lv_next hl
  obtain ⟨hy, j, hj, e⟩ := h.2.2.2.2 i hi x hx hv m a b y c
  obtain ⟨y', e', hv', -, g⟩ := h.2.2.2.1 j hj
  have : y' = y := nI_ij (by have := hv'.1; omega) (by have := hy.1; omega) (e'.symm.trans e)
  subst this
  exact hnx_y (by omega) a b c (g d)
theorem Pr_strike (hn : n ≤ 4) (h : Pr B R bs n K ss mt) {i x : Nat} (hi : i < K) (hx : gi ss i = nI x) (hv : Vs B R bs x) (hh : hnx B R bs n mt x 4 = false) : Pr B R bs n K ss (mt.set x 2) := by
  obtain ⟨h1, h2, h3, h4, h5⟩ := h
  have nl : ¬ Lv B R bs n x := fun z => by
    have := Pr_live hn ⟨h1, h2, h3, h4, h5⟩ hi hx hv z
    rw [hh] at this
    cases this
  refine ⟨h1, by rw [List.length_set]; exact h2, h3, fun j hj => ?_, h5⟩
  obtain ⟨y, g1, g2, g3, g4⟩ := h4 j hj
  refine ⟨y, g1, g2, ?_, fun z => ?_⟩
  · by_cases e : x = y
    · rw [← e, gi_set_eq (by rw [h2]; exact hv.1)]; decide
    · rw [gi_set_ne e]; exact g3
  · by_cases e : x = y
    · exact absurd (e ▸ z) nl
    · rw [gi_set_ne e]; exact g4 z
theorem Pr_end (h : Pr B R bs n K ss mt) (hc : ∀ i, i < K → ∀ x, gi ss i = nI x → gi mt x = 1 → hnx B R bs n mt x 4 = true) {i f : Nat} (hi : i < K) (hf : gi ss i = nI f) (hvf : Vs B R bs f) : gi mt f = 1 ↔ Lv B R bs n f := by
  constructor
  · intro h1
    refine ⟨fun y => Vs B R bs y ∧ gi mt y = 1 ∧ ∃ j, j < K ∧ gi ss j = nI y, ⟨hvf, h1, i, hi, hf⟩, ?_⟩
    rintro y ⟨hv, hy, j, hj, e⟩
    obtain ⟨m, a, b, y', c, d⟩ := hnx_ex (hc j hj y e hy)
    obtain ⟨hv', j', hj', e'⟩ := h.2.2.2.2 j hj y e hv m a b y' c
    exact ⟨m, a, b, y', c, hv', d, j', hj', e'⟩
  · intro hl
    obtain ⟨x, g1, g2, -, g4⟩ := h.2.2.2.1 i hi
    have : x = f := nI_ij (by have := g2.1; omega) (by have := hvf.1; omega) (g1.symm.trans hf)
    subst this
    exact g4 hl
end
theorem nI_m9 (k : Nat) : nI (k + 1) + (-1) = nI k := by
  rw [← Int32.sub_eq_add_neg]
  exact nI_s1 k
theorem gi_1lt {l : List Int32} {x : Nat} (h : gi l x = 1) : x < l.length := by
  induction l generalizing x with
  | nil => exact absurd (show (0 : Int32) = 1 from h) (by decide)
  | cons a l ih =>
    cases x with
    | zero => exact Nat.succ_pos _
    | succ x => exact Nat.succ_lt_succ (ih h)
theorem Bf_Pr {h : Nat → Int32} {q : Int32} {B R : Nat → Nat} {bs : Nat → Bool} (H : Hs h q B R bs) {f K n : Nat} {ss mt : List Int32} (hB : Bf B R bs f K ss mt) (hC : Cl B R bs n K ss mt) : Pr B R bs n K ss mt := by
  obtain ⟨h1, h2, h3, h4, h5, h6, h7⟩ := hB
  refine ⟨h1, h2, by omega, fun i hi => ?_, fun i hi x hx hv m hm hb y hg => ?_⟩
  · obtain ⟨x, g1, g2, g3⟩ := h5 i hi
    exact ⟨x, g1, g2, by rw [g3]; decide, fun _ => g3⟩
  · have hy := gst_ok H hv hg
    refine ⟨hy, ?_⟩
    have := hC i hi x hx hv m hm hb y hg
    rcases h6 y hy.1 with g | ⟨g, z⟩
    · rw [g] at this; exact absurd this (by decide)
    · exact z
theorem cnt_all {l : List Int32} {n : Nat} (h : ∀ j, j < n → gi l j = 0) : cnt 0 l n = n := by
  induction n with
  | zero => rfl
  | succ n ih => show cnt 0 l n + _ = n + 1; rw [ih (fun j hj => h j (by omega)), if_pos (h n (by omega))]
theorem Bf_0 {B R : Nat → Nat} {bs : Nat → Bool} {f : Nat} {ss mt : List Int32} (hs : ss.length = 50625) (hm : mt.length = 50625) (hf : Vs B R bs f) (h0 : ∀ j, j < 50625 → gi mt j = 0) : Bf B R bs f 1 (ss.set 0 (nI f)) (mt.set f 1) := by
  have hc := cnt_all h0
  have hd := cnt_dec (x := 0) (v := 1) (l := mt) hf.1 (by rw [hm]; exact hf.1) (h0 f hf.1) (by decide)
  have e0 : gi (ss.set 0 (nI f)) 0 = nI f := gi_set_eq (by rw [hs]; decide)
  have ef : gi (mt.set f 1) f = 1 := gi_set_eq (by rw [hm]; exact hf.1)
  refine ⟨by rw [List.length_set]; exact hs, by rw [List.length_set]; exact hm, Nat.le_refl 1, by omega, fun i hi => ?_, fun x hx => ?_, e0⟩
  · have : i = 0 := by omega
    subst this
    exact ⟨f, e0, hf, ef⟩
  · by_cases e : f = x
    · subst e; exact Or.inr ⟨ef, 0, by decide, e0⟩
    · rw [gi_set_ne e]; exact Or.inl (h0 x hx)
theorem fiT_1 (h : Nat → Int32) (q : Int32) : fiT h q 1 = fiT h q 0 + (bif hB q 0 then 3 * h 2 else 0) := rfl
theorem fiT_2 (h : Nat → Int32) (q : Int32) : fiT h q 2 = fiT h q 1 + (bif hB q 1 then 45 * h 3 else 0) := rfl
theorem fiT_3 (h : Nat → Int32) (q : Int32) : fiT h q 3 = fiT h q 2 + (bif hB q 2 then 675 * h 4 else 0) := rfl
theorem fiT_4 (h : Nat → Int32) (q : Int32) : fiT h q 4 = fiT h q 3 + (bif hB q 3 then 10125 * h 5 else 0) := rfl

set_option maxHeartbeats 4000000 in
set_option maxRecDepth 100000 in
theorem c_isFE (z h : Nat → Int32) (q : Int32) (B R : Nat → Nat) (bs : Nat → Bool) (H : Hs h q B R bs) (n : Nat) (hn : n ≤ 4) (hn0 : h 0 = nI n) (K0 : Int32) (s9 m9 : List Int32) (hs9 : s9.length = 50625) (hm9 : m9.length = 50625) : Ctr mk_X7_isForEver 4 [.ref 500, .int q] [(500, mM z K0), (502, a14 h), (513, .inr (.inl (0, s9))), (514, .inr (.inl (1, m9)))] (fun r u => ∃ (bb : Bool) (K' : Int32) (ss' mt' : List Int32), (bb = true ↔ Lv B R bs n (fiN B bs)) ∧ ss'.length = 50625 ∧ mt'.length = 50625 ∧ r = some (.int (b2i bb)) ∧ u = [(500, mM z K'), (502, a14 h), (513, .inr (.inl (0, ss'))), (514, .inr (.inl (1, mt')))]) := by
  refine Ctr.of rfl (Nat.le_of_ble_eq_true rfl) ?_
  intro x ad F hJ hR
  have hf := fiN_ok H
  have hfT := fiT_N H
  generalize hF : fiN B bs = f at *
  have HEnd : ∀ (K : Nat) (ss mt : List Int32) (hss : ss.length = 50625) (hmt : mt.length = 50625), (gi mt f = 1 ↔ Lv B R bs n f) → J x 7 (ad, 0, 0) (290, [(0, .ref 500), (1, .int q), (2, .int (nI f))], [], [(500, mM z (nI K)), (502, a14 h), (513, .inr (.inl (0, ss))), (514, .inr (.inl (1, mt)))]) := by
    intro K ss mt hss hmt hL
    by_cases h1 : (gi mt f) = 1
    · skip
      refine J.run (sn_X7_isForEver F) 8 [f, 0] (S' := (305, [(0, .ref 500), (1, .int q), (2, .int (nI f))], [.int 1], [(500, mM z (nI K)), (502, a14 h), (513, .inr (.inl (0, ss))), (514, .inr (.inl (1, mt)))])) (ob := [ix (nI f) f mt.length, (gi mt f) = 1]) rfl (ob_c (ix_len hmt (ix_nI hf.1 (by decide))) (ob_c h1 ob_n)) ?_
      exact J.iret F hR (Nat.le_refl _) (Nat.le_refl _) rfl rfl (by decide +kernel) ⟨rfl, keq [500, 502, 513, 514] rfl rfl, true, nI K, ss, mt, ⟨fun _ => hL.mp h1, fun _ => rfl⟩, hss, hmt, rfl, rfl⟩
    · skip
      refine J.run (sn_X7_isForEver F) 7 [f, 1] (S' := (305, [(0, .ref 500), (1, .int q), (2, .int (nI f))], [.int 0], [(500, mM z (nI K)), (502, a14 h), (513, .inr (.inl (0, ss))), (514, .inr (.inl (1, mt)))])) (ob := [ix (nI f) f mt.length, ¬ (gi mt f) = 1]) rfl (ob_c (ix_len hmt (ix_nI hf.1 (by decide))) (ob_c h1 ob_n)) ?_
      exact J.iret F hR (Nat.le_refl _) (Nat.le_refl _) rfl rfl (by decide +kernel) ⟨rfl, keq [500, 502, 513, 514] rfl rfl, false, nI K, ss, mt, ⟨fun z => absurd z (by decide), fun z => absurd (hL.mpr z) h1⟩, hss, hmt, rfl, rfl⟩
  have HP : ∀ (K : Nat) (ss mt0 : List Int32), (∃ i, i < K ∧ gi ss i = nI f) → (∀ mt : List Int32, Pr B R bs n K ss mt → cnt 1 mt 50625 < cnt 1 mt0 50625 → J x 7 (ad, 0, 0) (213, [(0, .ref 500), (1, .int q), (2, .int (nI f)), (4, .int 1)], [], [(500, mM z (nI K)), (502, a14 h), (513, .inr (.inl (0, ss))), (514, .inr (.inl (1, mt)))])) → ∀ (k : Nat) (mt : List Int32) (fw : Bool), k ≤ K → Pr B R bs n K ss mt → (fw = false → mt = mt0 ∧ ∀ i, k ≤ i → i < K → ∀ x, gi ss i = nI x → gi mt x = 1 → hnx B R bs n mt x 4 = true) → (fw = true → cnt 1 mt 50625 < cnt 1 mt0 50625) → J x 7 (ad, 0, 0) (229, [(0, .ref 500), (1, .int q), (2, .int (nI f)), (4, .int (b2i fw)), (5, .int ((nI k) + (-1)))], [], [(500, mM z (nI K)), (502, a14 h), (513, .inr (.inl (0, ss))), (514, .inr (.inl (1, mt)))]) := by
    intro K ss mt0 hfi hkk k
    induction k with
    | zero =>
      intro mt fw hkK hP hF hT
      obtain ⟨hss, hmt, hK5, hP4, hP5⟩ := id hP
      cases fw
      · skip
        refine J.run (sn_X7_isForEver F) 5 [1, 1] (S' := (290, [(0, .ref 500), (1, .int q), (2, .int (nI f)), (4, .int 0), (5, .int ((nI 0) + (-1)))], [], [(500, mM z (nI K)), (502, a14 h), (513, .inr (.inl (0, ss))), (514, .inr (.inl (1, mt)))])) (ob := [((nI 0) + (-1)) < 0, (0 : Int32) = 0]) rfl (ob_c (by decide) (ob_c (by decide) ob_n)) ?_
        refine J.lv (lv' := [(0, .ref 500), (1, .int q), (2, .int (nI f))]) [0, 1, 2] rfl ?_
        obtain ⟨i, hi, hfi⟩ := hfi
        exact HEnd K ss mt hss hmt (Pr_end hP (fun i hi => (hF rfl).2 i (Nat.zero_le i) hi) hi hfi hf)
      · skip
        refine J.run (sn_X7_isForEver F) 3 [1] (S' := (213, [(0, .ref 500), (1, .int q), (2, .int (nI f)), (4, .int 1), (5, .int ((nI 0) + (-1)))], [], [(500, mM z (nI K)), (502, a14 h), (513, .inr (.inl (0, ss))), (514, .inr (.inl (1, mt)))])) (ob := [((nI 0) + (-1)) < 0]) rfl (ob_c (by decide) ob_n) ?_
        refine J.lv (lv' := [(0, .ref 500), (1, .int q), (2, .int (nI f)), (4, .int 1)]) [0, 1, 2, 3] rfl ?_
        exact hkk mt hP (hT rfl)
    | succ k ih =>
      intro mt fw hkK hP hF hT
      obtain ⟨hss, hmt, hK5, hP4, hP5⟩ := id hP
      rw [nI_m9]
      obtain ⟨x9, e9, hx9, hn9, hl9⟩ := hP4 k (by omega)
      cases fw
      · show J x 7 (ad, 0, 0) (229, [(0, .ref 500), (1, .int q), (2, .int (nI f)), (4, .int 0), (5, .int (nI k))], [], [(500, mM z (nI K)), (502, a14 h), (513, .inr (.inl (0, ss))), (514, .inr (.inl (1, mt)))])
        refine J.run (sn_X7_isForEver F) 8 [0, k] (S' := (245, [(0, .ref 500), (1, .int q), (2, .int (nI f)), (4, .int 0), (5, .int (nI k))], [.int (gi ss k), .ref 514], [(500, mM z (nI K)), (502, a14 h), (513, .inr (.inl (0, ss))), (514, .inr (.inl (1, mt)))])) (ob := [¬ (nI k) < 0, ix (nI k) k ss.length]) rfl (ob_c (n_nlt0 (by omega)) (ob_c (ix_len hss (ix_nI (by omega) (by decide))) ob_n)) ?_
        rw [e9]
        by_cases h1 : (gi mt x9) = 1
        · skip
          refine J.run (sn_X7_isForEver F) 8 [x9, 0, k] (S' := (258, [(0, .ref 500), (1, .int q), (2, .int (nI f)), (4, .int 0), (5, .int (nI k))], [.int (gi ss k), .ref 500], [(500, mM z (nI K)), (502, a14 h), (513, .inr (.inl (0, ss))), (514, .inr (.inl (1, mt)))])) (ob := [ix (nI x9) x9 mt.length, (gi mt x9) = 1, ix (nI k) k ss.length]) rfl (ob_c (ix_len hmt (ix_nI hx9.1 (by decide))) (ob_c h1 (ob_c (ix_len hss (ix_nI (by omega) (by decide))) ob_n))) ?_
          rw [e9]
          refine J.run (sn_X7_isForEver F) 1 [] (S' := (259, [(0, .ref 500), (1, .int q), (2, .int (nI f)), (4, .int 0), (5, .int (nI k))], [.int q, .int (nI x9), .ref 500], [(500, mM z (nI K)), (502, a14 h), (513, .inr (.inl (0, ss))), (514, .inr (.inl (1, mt)))])) (ob := []) rfl (ob_n) ?_
          refine J.callVK F hJ lk_X7_216 im_X7_hasNext se_X7_hasNext (by decide +kernel) (c_hasN (gi [0, z 1, 0, 0, 0, 0, 0, 0, 0, 0, 0, z 11, 0, 0, z 14, z 15, z 16, z 17, z 18, z 19, z 20, z 21, z 22, z 23, 0, 0, nI K]) h q B R bs H n hn hn0 mt hmt x9 hx9) (fun k => k) (by decide) [] [500, 502, 514] rfl rfl rfl rfl rfl rfl (by decide +kernel) rfl (by decide +kernel) (fun r ws' hk hp => ?_)
          obtain ⟨rfl, rfl⟩ := hp
          show J x 7 (ad, 0, 0) (262, [(0, .ref 500), (1, .int q), (2, .int (nI f)), (4, .int 0), (5, .int (nI k))], [.int (b2i (hnx B R bs n mt x9 4))], [(500, mM z (nI K)), (502, a14 h), (513, .inr (.inl (0, ss))), (514, .inr (.inl (1, mt)))])
          cases hb9 : hnx B R bs n mt x9 4
          · skip
            refine J.run (sn_X7_isForEver F) 7 [0, k] (S' := (276, [(0, .ref 500), (1, .int q), (2, .int (nI f)), (4, .int 0), (5, .int (nI k))], [.int (gi ss k), .ref 514], [(500, mM z (nI K)), (502, a14 h), (513, .inr (.inl (0, ss))), (514, .inr (.inl (1, mt)))])) (ob := [(0 : Int32) = 0, ix (nI k) k ss.length]) rfl (ob_c (by decide) (ob_c (ix_len hss (ix_nI (by omega) (by decide))) ob_n)) ?_
            rw [e9]
            refine J.run (sn_X7_isForEver F) 6 [x9] (S' := (229, [(0, .ref 500), (1, .int q), (2, .int (nI f)), (4, .int 1), (5, .int ((nI k) + (-1)))], [], [(500, mM z (nI K)), (502, a14 h), (513, .inr (.inl (0, ss))), (514, .inr (.inl (1, (mt.set x9 2))))])) (ob := [ix (nI x9) x9 mt.length]) rfl (ob_c (ix_len hmt (ix_nI hx9.1 (by decide))) ob_n) ?_
            have hm1 := h1
            have hcd := cnt_dec (x := 1) (v := 2) (l := mt) hx9.1 (by rw [hmt]; exact hx9.1) hm1 (by decide)
            exact ih (mt.set x9 2) true (by omega) (Pr_strike hn hP (by omega) e9 hx9 hb9) (fun z => by cases z) (fun _ => by have := hF rfl; have e0 := this.1; subst e0; omega)
          · skip
            refine J.run (sn_X7_isForEver F) 3 [1] (S' := (229, [(0, .ref 500), (1, .int q), (2, .int (nI f)), (4, .int 0), (5, .int ((nI k) + (-1)))], [], [(500, mM z (nI K)), (502, a14 h), (513, .inr (.inl (0, ss))), (514, .inr (.inl (1, mt)))])) (ob := [¬ (1 : Int32) = 0]) rfl (ob_c (by decide) ob_n) ?_
            exact ih mt false (by omega) hP (fun _ => ⟨(hF rfl).1, fun i hi hiK x hx hx1 => if e : i = k then (by subst e; have ex := nI_ij (by have := hx9.1; omega) (by have := gi_1lt hx1; omega) (e9.symm.trans hx); subst ex; exact hb9) else (hF rfl).2 i (by omega) hiK x hx hx1⟩) (fun z => by cases z)
        · skip
          refine J.run (sn_X7_isForEver F) 5 [x9, 1] (S' := (229, [(0, .ref 500), (1, .int q), (2, .int (nI f)), (4, .int 0), (5, .int ((nI k) + (-1)))], [], [(500, mM z (nI K)), (502, a14 h), (513, .inr (.inl (0, ss))), (514, .inr (.inl (1, mt)))])) (ob := [ix (nI x9) x9 mt.length, ¬ (gi mt x9) = 1]) rfl (ob_c (ix_len hmt (ix_nI hx9.1 (by decide))) (ob_c h1 ob_n)) ?_
          exact ih mt false (by omega) hP (fun _ => ⟨(hF rfl).1, fun i hi hiK x hx hx1 => if e : i = k then (by subst e; have ex := nI_ij (by have := hx9.1; omega) (by have := gi_1lt hx1; omega) (e9.symm.trans hx); subst ex; exact absurd hx1 h1) else (hF rfl).2 i (by omega) hiK x hx hx1⟩) (fun z => by cases z)
      · show J x 7 (ad, 0, 0) (229, [(0, .ref 500), (1, .int q), (2, .int (nI f)), (4, .int 1), (5, .int (nI k))], [], [(500, mM z (nI K)), (502, a14 h), (513, .inr (.inl (0, ss))), (514, .inr (.inl (1, mt)))])
        refine J.run (sn_X7_isForEver F) 8 [0, k] (S' := (245, [(0, .ref 500), (1, .int q), (2, .int (nI f)), (4, .int 1), (5, .int (nI k))], [.int (gi ss k), .ref 514], [(500, mM z (nI K)), (502, a14 h), (513, .inr (.inl (0, ss))), (514, .inr (.inl (1, mt)))])) (ob := [¬ (nI k) < 0, ix (nI k) k ss.length]) rfl (ob_c (n_nlt0 (by omega)) (ob_c (ix_len hss (ix_nI (by omega) (by decide))) ob_n)) ?_
        rw [e9]
        by_cases h1 : (gi mt x9) = 1
        · skip
          refine J.run (sn_X7_isForEver F) 8 [x9, 0, k] (S' := (258, [(0, .ref 500), (1, .int q), (2, .int (nI f)), (4, .int 1), (5, .int (nI k))], [.int (gi ss k), .ref 500], [(500, mM z (nI K)), (502, a14 h), (513, .inr (.inl (0, ss))), (514, .inr (.inl (1, mt)))])) (ob := [ix (nI x9) x9 mt.length, (gi mt x9) = 1, ix (nI k) k ss.length]) rfl (ob_c (ix_len hmt (ix_nI hx9.1 (by decide))) (ob_c h1 (ob_c (ix_len hss (ix_nI (by omega) (by decide))) ob_n))) ?_
          rw [e9]
          refine J.run (sn_X7_isForEver F) 1 [] (S' := (259, [(0, .ref 500), (1, .int q), (2, .int (nI f)), (4, .int 1), (5, .int (nI k))], [.int q, .int (nI x9), .ref 500], [(500, mM z (nI K)), (502, a14 h), (513, .inr (.inl (0, ss))), (514, .inr (.inl (1, mt)))])) (ob := []) rfl (ob_n) ?_
          refine J.callVK F hJ lk_X7_216 im_X7_hasNext se_X7_hasNext (by decide +kernel) (c_hasN (gi [0, z 1, 0, 0, 0, 0, 0, 0, 0, 0, 0, z 11, 0, 0, z 14, z 15, z 16, z 17, z 18, z 19, z 20, z 21, z 22, z 23, 0, 0, nI K]) h q B R bs H n hn hn0 mt hmt x9 hx9) (fun k => k) (by decide) [] [500, 502, 514] rfl rfl rfl rfl rfl rfl (by decide +kernel) rfl (by decide +kernel) (fun r ws' hk hp => ?_)
          obtain ⟨rfl, rfl⟩ := hp
          show J x 7 (ad, 0, 0) (262, [(0, .ref 500), (1, .int q), (2, .int (nI f)), (4, .int 1), (5, .int (nI k))], [.int (b2i (hnx B R bs n mt x9 4))], [(500, mM z (nI K)), (502, a14 h), (513, .inr (.inl (0, ss))), (514, .inr (.inl (1, mt)))])
          cases hb9 : hnx B R bs n mt x9 4
          · skip
            refine J.run (sn_X7_isForEver F) 7 [0, k] (S' := (276, [(0, .ref 500), (1, .int q), (2, .int (nI f)), (4, .int 1), (5, .int (nI k))], [.int (gi ss k), .ref 514], [(500, mM z (nI K)), (502, a14 h), (513, .inr (.inl (0, ss))), (514, .inr (.inl (1, mt)))])) (ob := [(0 : Int32) = 0, ix (nI k) k ss.length]) rfl (ob_c (by decide) (ob_c (ix_len hss (ix_nI (by omega) (by decide))) ob_n)) ?_
            rw [e9]
            refine J.run (sn_X7_isForEver F) 6 [x9] (S' := (229, [(0, .ref 500), (1, .int q), (2, .int (nI f)), (4, .int 1), (5, .int ((nI k) + (-1)))], [], [(500, mM z (nI K)), (502, a14 h), (513, .inr (.inl (0, ss))), (514, .inr (.inl (1, (mt.set x9 2))))])) (ob := [ix (nI x9) x9 mt.length]) rfl (ob_c (ix_len hmt (ix_nI hx9.1 (by decide))) ob_n) ?_
            have hm1 := h1
            have hcd := cnt_dec (x := 1) (v := 2) (l := mt) hx9.1 (by rw [hmt]; exact hx9.1) hm1 (by decide)
            exact ih (mt.set x9 2) true (by omega) (Pr_strike hn hP (by omega) e9 hx9 hb9) (fun z => by cases z) (fun _ => by have := hT rfl; omega)
          · skip
            refine J.run (sn_X7_isForEver F) 3 [1] (S' := (229, [(0, .ref 500), (1, .int q), (2, .int (nI f)), (4, .int 1), (5, .int ((nI k) + (-1)))], [], [(500, mM z (nI K)), (502, a14 h), (513, .inr (.inl (0, ss))), (514, .inr (.inl (1, mt)))])) (ob := [¬ (1 : Int32) = 0]) rfl (ob_c (by decide) ob_n) ?_
            exact ih mt true (by omega) hP (fun z => by cases z) hT
        · skip
          refine J.run (sn_X7_isForEver F) 5 [x9, 1] (S' := (229, [(0, .ref 500), (1, .int q), (2, .int (nI f)), (4, .int 1), (5, .int ((nI k) + (-1)))], [], [(500, mM z (nI K)), (502, a14 h), (513, .inr (.inl (0, ss))), (514, .inr (.inl (1, mt)))])) (ob := [ix (nI x9) x9 mt.length, ¬ (gi mt x9) = 1]) rfl (ob_c (ix_len hmt (ix_nI hx9.1 (by decide))) (ob_c h1 ob_n)) ?_
          exact ih mt true (by omega) hP (fun z => by cases z) hT
  have HW : ∀ (N K : Nat) (ss mt : List Int32), Pr B R bs n K ss mt → (∃ i, i < K ∧ gi ss i = nI f) → cnt 1 mt 50625 ≤ N → J x 7 (ad, 0, 0) (213, [(0, .ref 500), (1, .int q), (2, .int (nI f)), (4, .int 1)], [], [(500, mM z (nI K)), (502, a14 h), (513, .inr (.inl (0, ss))), (514, .inr (.inl (1, mt)))]) := by
    intro N
    induction N with
    | zero =>
      intro K ss mt hP hfi hc
      have hkk : ∀ mt' : List Int32, Pr B R bs n K ss mt' → cnt 1 mt' 50625 < cnt 1 mt 50625 → J x 7 (ad, 0, 0) (213, [(0, .ref 500), (1, .int q), (2, .int (nI f)), (4, .int 1)], [], [(500, mM z (nI K)), (502, a14 h), (513, .inr (.inl (0, ss))), (514, .inr (.inl (1, mt')))]) := fun mt' _ h => absurd h (by omega)
      refine J.run (sn_X7_isForEver F) 9 [0] (S' := (229, [(0, .ref 500), (1, .int q), (2, .int (nI f)), (4, .int 0), (5, .int ((nI K) - 1))], [], [(500, mM z (nI K)), (502, a14 h), (513, .inr (.inl (0, ss))), (514, .inr (.inl (1, mt)))])) (ob := [¬ (1 : Int32) = 0]) rfl (ob_c (by decide) ob_n) ?_
      exact J.cast (HP K ss mt hfi hkk K mt false (Nat.le_refl K) hP (fun _ => ⟨rfl, fun i h1 h2 => absurd h2 (by omega)⟩) (fun z => by cases z)) (by rw [Int32.sub_eq_add_neg]; rfl)
    | succ N ih =>
      intro K ss mt hP hfi hc
      have hkk : ∀ mt' : List Int32, Pr B R bs n K ss mt' → cnt 1 mt' 50625 < cnt 1 mt 50625 → J x 7 (ad, 0, 0) (213, [(0, .ref 500), (1, .int q), (2, .int (nI f)), (4, .int 1)], [], [(500, mM z (nI K)), (502, a14 h), (513, .inr (.inl (0, ss))), (514, .inr (.inl (1, mt')))]) := fun mt' h1 h => ih K ss mt' h1 hfi (by omega)
      refine J.run (sn_X7_isForEver F) 9 [0] (S' := (229, [(0, .ref 500), (1, .int q), (2, .int (nI f)), (4, .int 0), (5, .int ((nI K) - 1))], [], [(500, mM z (nI K)), (502, a14 h), (513, .inr (.inl (0, ss))), (514, .inr (.inl (1, mt)))])) (ob := [¬ (1 : Int32) = 0]) rfl (ob_c (by decide) ob_n) ?_
      exact J.cast (HP K ss mt hfi hkk K mt false (Nat.le_refl K) hP (fun _ => ⟨rfl, fun i h1 h2 => absurd h2 (by omega)⟩) (fun z => by cases z)) (by rw [Int32.sub_eq_add_neg]; rfl)
  have HB : ∀ (N k K : Nat) (ss mt : List Int32), k + N = 50625 → k ≤ K → Bf B R bs f K ss mt → Cl B R bs n k ss mt → J x 7 (ad, 0, 0) (100, [(0, .ref 500), (1, .int q), (2, .int (nI f)), (4, .int (nI k))], [], [(500, mM z (nI K)), (502, a14 h), (513, .inr (.inl (0, ss))), (514, .inr (.inl (1, mt)))]) := by
    intro N
    induction N with
    | zero =>
      intro k K ss mt hkN hkK hBf hCl
      have hKb := Bf_K hBf
      have ek : k = K := by omega
      subst ek
      refine J.run (sn_X7_isForEver F) 6 [1] (S' := (213, [(0, .ref 500), (1, .int q), (2, .int (nI f)), (4, .int 1)], [], [(500, mM z (nI k)), (502, a14 h), (513, .inr (.inl (0, ss))), (514, .inr (.inl (1, mt)))])) (ob := [(nI k) ≤ (nI k)]) rfl (ob_c (n_le (by omega) (by omega) (Nat.le_refl _)) ob_n) ?_
      exact HW (cnt 1 mt 50625) k ss mt (Bf_Pr H hBf hCl) ⟨0, hBf.2.2.1, hBf.2.2.2.2.2.2⟩ (Nat.le_refl _)
    | succ N ih =>
      intro k K ss mt hkN hkK hBf hCl
      have hKb := Bf_K hBf
      by_cases hlt : k < K
      · obtain ⟨x9, e9, hx9, hm9'⟩ := hBf.2.2.2.2.1 k hlt
        have hx31 : x9 < 2 ^ 31 := Nat.lt_trans hx9.1 (by decide)
        have I4 : ∀ (K : Nat) (ss mt : List Int32), Bf B R bs f K ss mt → k < K → gi ss k = nI x9 → Cl B R bs n k ss mt → Cm B R bs n x9 4 mt → J x 7 (ad, 0, 0) (112, [(0, .ref 500), (1, .int q), (2, .int (nI f)), (4, .int (nI k)), (5, .int 4)], [], [(500, mM z (nI K)), (502, a14 h), (513, .inr (.inl (0, ss))), (514, .inr (.inl (1, mt)))]) := by
          intro K ss mt hBf hlt e9 hCl hCm
          obtain ⟨hss, hmt, hB3, hB4, hB5, hB6, hB7⟩ := id hBf
          have hKb := Bf_K hBf
          refine J.run (sn_X7_isForEver F) 8 [0, 1] (S' := (100, [(0, .ref 500), (1, .int q), (2, .int (nI f)), (4, .int ((nI k) + 1)), (5, .int 4)], [], [(500, mM z (nI K)), (502, a14 h), (513, .inr (.inl (0, ss))), (514, .inr (.inl (1, mt)))])) (ob := [ix 0 0 14, (h 0) ≤ 4]) rfl (ob_c (ix_of rfl) (ob_c (by rw [hn0]; exact n_le (b := 4) (by omega) (by omega) hn) ob_n)) ?_
          refine J.lv (lv' := [(0, .ref 500), (1, .int q), (2, .int (nI f)), (4, .int ((nI k) + 1))]) [0, 1, 2, 3] rfl ?_
          exact J.cast (ih (k + 1) K ss mt (by omega) (by omega) hBf (Cl_s hCl e9 hx9.1 hCm hn)) (by simp only [nI_1])
        have I3 : ∀ (K : Nat) (ss mt : List Int32), Bf B R bs f K ss mt → k < K → gi ss k = nI x9 → Cl B R bs n k ss mt → Cm B R bs n x9 3 mt → J x 7 (ad, 0, 0) (112, [(0, .ref 500), (1, .int q), (2, .int (nI f)), (4, .int (nI k)), (5, .int 3)], [], [(500, mM z (nI K)), (502, a14 h), (513, .inr (.inl (0, ss))), (514, .inr (.inl (1, mt)))]) := by
          intro K ss mt hBf hlt e9 hCl hCm
          obtain ⟨hss, hmt, hB3, hB4, hB5, hB6, hB7⟩ := id hBf
          have hKb := Bf_K hBf
          by_cases hnm : n ≤ 3
          · skip
            refine J.run (sn_X7_isForEver F) 8 [0, 1] (S' := (100, [(0, .ref 500), (1, .int q), (2, .int (nI f)), (4, .int ((nI k) + 1)), (5, .int 3)], [], [(500, mM z (nI K)), (502, a14 h), (513, .inr (.inl (0, ss))), (514, .inr (.inl (1, mt)))])) (ob := [ix 0 0 14, (h 0) ≤ 3]) rfl (ob_c (ix_of rfl) (ob_c (by rw [hn0]; exact n_le (b := 3) (by omega) (by omega) hnm) ob_n)) ?_
            refine J.lv (lv' := [(0, .ref 500), (1, .int q), (2, .int (nI f)), (4, .int ((nI k) + 1))]) [0, 1, 2, 3] rfl ?_
            exact J.cast (ih (k + 1) K ss mt (by omega) (by omega) hBf (Cl_s hCl e9 hx9.1 (fun m' _ hmn hb y hg => hCm m' (by omega) hmn hb y hg) hn)) (by simp only [nI_1])
          · have hbs : bs 3 = hB q 3 := (H 3 (by decide)).2.2.2.2.1
            refine J.run (sn_X7_isForEver F) 10 [0, 0] (S' := (128, [(0, .ref 500), (1, .int q), (2, .int (nI f)), (4, .int (nI k)), (5, .int 3)], [.int 1, .int (q >>> ((3 : Int32) &&& 31))], [(500, mM z (nI K)), (502, a14 h), (513, .inr (.inl (0, ss))), (514, .inr (.inl (1, mt)))])) (ob := [ix 0 0 14, ¬ (h 0) ≤ 3]) rfl (ob_c (ix_of rfl) (ob_c (by rw [hn0]; exact n_nle (b := 3) (by omega) (by omega) (by omega)) ob_n)) ?_
            cases hb1 : hB q 3
            · skip
              refine J.run (sn_X7_isForEver F) 10 [1, 1] (S' := (112, [(0, .ref 500), (1, .int q), (2, .int (nI f)), (4, .int (nI k)), (5, .int 4), (6, .int (-1))], [], [(500, mM z (nI K)), (502, a14 h), (513, .inr (.inl (0, ss))), (514, .inr (.inl (1, mt)))])) (ob := [¬ ((q >>> ((3 : Int32) &&& 31)) &&& 1) = 1, ((-1) : Int32) = (-1)]) rfl (ob_c (hB_f hb1) (ob_c (by decide) ob_n)) ?_
              refine J.lv (lv' := [(0, .ref 500), (1, .int q), (2, .int (nI f)), (4, .int (nI k)), (5, .int 4)]) [0, 1, 2, 3, 4] rfl ?_
              exact I4 K ss mt hBf hlt e9 hCl (Cm_s hCm (fun _ hb2 => absurd (hb2.symm.trans (hbs.trans hb1)) (by decide)))
            · skip
              refine J.run (sn_X7_isForEver F) 8 [0, k] (S' := (141, [(0, .ref 500), (1, .int q), (2, .int (nI f)), (4, .int (nI k)), (5, .int 3)], [.int (gi ss k), .ref 500], [(500, mM z (nI K)), (502, a14 h), (513, .inr (.inl (0, ss))), (514, .inr (.inl (1, mt)))])) (ob := [((q >>> ((3 : Int32) &&& 31)) &&& 1) = 1, ix (nI k) k ss.length]) rfl (ob_c (hB_t hb1) (ob_c (ix_len hss (ix_nI (by omega) (by decide))) ob_n)) ?_
              rw [e9]
              refine J.run (sn_X7_isForEver F) 2 [] (S' := (144, [(0, .ref 500), (1, .int q), (2, .int (nI f)), (4, .int (nI k)), (5, .int 3)], [.int 3, .int q, .int (nI x9), .ref 500], [(500, mM z (nI K)), (502, a14 h), (513, .inr (.inl (0, ss))), (514, .inr (.inl (1, mt)))])) (ob := []) rfl (ob_n) ?_
              refine J.callVK F hJ lk_X7_209 im_X7_goesOn se_X7_goesOn (by decide +kernel) (c_goes3 (gi [0, z 1, 0, 0, 0, 0, 0, 0, 0, 0, 0, z 11, 0, 0, z 14, z 15, z 16, z 17, z 18, z 19, z 20, z 21, z 22, z 23, 0, 0, nI K]) h (nI x9) q) (fun k => k) (by decide) [] [500, 502] rfl rfl rfl rfl rfl rfl (by decide +kernel) rfl (by decide +kernel) (fun r ws' hk hp => ?_)
              obtain ⟨rfl, rfl⟩ := hp
              show J x 7 (ad, 0, 0) (147, [(0, .ref 500), (1, .int q), (2, .int (nI f)), (4, .int (nI k)), (5, .int 3)], [.int (goN h q 3 (nI x9))], [(500, mM z (nI K)), (502, a14 h), (513, .inr (.inl (0, ss))), (514, .inr (.inl (1, mt)))])
              rw [goN_N H (w := 3) (by decide) hx31]
              cases hg : gst B R bs 3 x9
              · skip
                show J x 7 (ad, 0, 0) (147, [(0, .ref 500), (1, .int q), (2, .int (nI f)), (4, .int (nI k)), (5, .int 3)], [.int (-1)], [(500, mM z (nI K)), (502, a14 h), (513, .inr (.inl (0, ss))), (514, .inr (.inl (1, mt)))])
                refine J.run (sn_X7_isForEver F) 7 [1] (S' := (112, [(0, .ref 500), (1, .int q), (2, .int (nI f)), (4, .int (nI k)), (5, .int 4), (6, .int (-1))], [], [(500, mM z (nI K)), (502, a14 h), (513, .inr (.inl (0, ss))), (514, .inr (.inl (1, mt)))])) (ob := [((-1) : Int32) = (-1)]) rfl (ob_c (by decide) ob_n) ?_
                refine J.lv (lv' := [(0, .ref 500), (1, .int q), (2, .int (nI f)), (4, .int (nI k)), (5, .int 4)]) [0, 1, 2, 3, 4] rfl ?_
                exact I4 K ss mt hBf hlt e9 hCl (Cm_s hCm (fun _ _ y hy2 => by rw [hg] at hy2; cases hy2))
              rename_i y
              · skip
                have hvy := gst_ok H hx9 hg
                have hy31 : y < 2 ^ 31 := Nat.lt_trans hvy.1 (by decide)
                show J x 7 (ad, 0, 0) (147, [(0, .ref 500), (1, .int q), (2, .int (nI f)), (4, .int (nI k)), (5, .int 3)], [.int (nI y)], [(500, mM z (nI K)), (502, a14 h), (513, .inr (.inl (0, ss))), (514, .inr (.inl (1, mt)))])
                by_cases h2 : (gi mt y) = 0
                · skip
                  refine J.run (sn_X7_isForEver F) 10 [0, y, 0] (S' := (169, [(0, .ref 500), (1, .int q), (2, .int (nI f)), (4, .int (nI k)), (5, .int 3), (6, .int (nI y))], [], [(500, mM z (nI K)), (502, a14 h), (513, .inr (.inl (0, ss))), (514, .inr (.inl (1, mt)))])) (ob := [¬ (nI y) = (-1), ix (nI y) y mt.length, (gi mt y) = 0]) rfl (ob_c (nI_m1 hy31) (ob_c (ix_len hmt (ix_nI hvy.1 (by decide))) (ob_c h2 ob_n))) ?_
                  obtain ⟨hK9, hBn⟩ := Bf_new hBf hvy h2
                  refine J.run (sn_X7_isForEver F) 10 [y] (S' := (187, [(0, .ref 500), (1, .int q), (2, .int (nI f)), (4, .int (nI k)), (5, .int 3), (6, .int (nI y))], [.int (nI y), .int (nI K), .ref 513], [(500, mM z (nI K)), (502, a14 h), (513, .inr (.inl (0, ss))), (514, .inr (.inl (1, (mt.set y 1))))])) (ob := [ix (nI y) y mt.length]) rfl (ob_c (ix_len hmt (ix_nI hvy.1 (by decide))) ob_n) ?_
                  refine J.run (sn_X7_isForEver F) 9 [K] (S' := (112, [(0, .ref 500), (1, .int q), (2, .int (nI f)), (4, .int (nI k)), (5, .int 4), (6, .int (nI y))], [], [(500, .inl (7, [.ref 501, .int (z 1), .ref 502, .ref 503, .ref 504, .ref 505, .ref 506, .ref 507, .ref 508, .ref 509, .ref 510, .int (z 11), .ref 511, .ref 512, .int (z 14), .int (z 15), .int (z 16), .int (z 17), .int (z 18), .int (z 19), .int (z 20), .int (z 21), .int (z 22), .int (z 23), .ref 513, .ref 514, .int ((nI K) + 1)])), (502, a14 h), (513, .inr (.inl (0, (ss.set K (nI y))))), (514, .inr (.inl (1, (mt.set y 1))))])) (ob := [ix (nI K) K ss.length]) rfl (ob_c (ix_len hss (ix_nI hK9 (by decide))) ob_n) ?_
                  refine J.lv (lv' := [(0, .ref 500), (1, .int q), (2, .int (nI f)), (4, .int (nI k)), (5, .int 4)]) [0, 1, 2, 3, 4] rfl ?_
                  exact J.cast (I4 (K + 1) (ss.set K (nI y)) (mt.set y 1) hBn (by omega) (by rw [gi_set_ne (by omega)]; exact e9) (Cl_new (by omega) hCl (by rw [hmt]; exact hvy.1)) (Cm_s (Cm_new hCm (by rw [hmt]; exact hvy.1)) (fun _ _ y2 hy2 => by rw [hg] at hy2; cases hy2; exact gi_set_eq (by rw [hmt]; exact hvy.1)))) (by simp only [nI_1, mM])
                · skip
                  refine J.run (sn_X7_isForEver F) 10 [0, y, 1] (S' := (198, [(0, .ref 500), (1, .int q), (2, .int (nI f)), (4, .int (nI k)), (5, .int 3), (6, .int (nI y))], [], [(500, mM z (nI K)), (502, a14 h), (513, .inr (.inl (0, ss))), (514, .inr (.inl (1, mt)))])) (ob := [¬ (nI y) = (-1), ix (nI y) y mt.length, ¬ (gi mt y) = 0]) rfl (ob_c (nI_m1 hy31) (ob_c (ix_len hmt (ix_nI hvy.1 (by decide))) (ob_c h2 ob_n))) ?_
                  refine J.run (sn_X7_isForEver F) 2 [] (S' := (112, [(0, .ref 500), (1, .int q), (2, .int (nI f)), (4, .int (nI k)), (5, .int 4), (6, .int (nI y))], [], [(500, mM z (nI K)), (502, a14 h), (513, .inr (.inl (0, ss))), (514, .inr (.inl (1, mt)))])) (ob := []) rfl (ob_n) ?_
                  refine J.lv (lv' := [(0, .ref 500), (1, .int q), (2, .int (nI f)), (4, .int (nI k)), (5, .int 4)]) [0, 1, 2, 3, 4] rfl ?_
                  exact I4 K ss mt hBf hlt e9 hCl (Cm_s hCm (fun _ _ y2 hy2 => by rw [hg] at hy2; cases hy2; exact (hB6 y hvy.1).elim (fun z => absurd z h2) (fun z => z.1)))
        have I2 : ∀ (K : Nat) (ss mt : List Int32), Bf B R bs f K ss mt → k < K → gi ss k = nI x9 → Cl B R bs n k ss mt → Cm B R bs n x9 2 mt → J x 7 (ad, 0, 0) (112, [(0, .ref 500), (1, .int q), (2, .int (nI f)), (4, .int (nI k)), (5, .int 2)], [], [(500, mM z (nI K)), (502, a14 h), (513, .inr (.inl (0, ss))), (514, .inr (.inl (1, mt)))]) := by
          intro K ss mt hBf hlt e9 hCl hCm
          obtain ⟨hss, hmt, hB3, hB4, hB5, hB6, hB7⟩ := id hBf
          have hKb := Bf_K hBf
          by_cases hnm : n ≤ 2
          · skip
            refine J.run (sn_X7_isForEver F) 8 [0, 1] (S' := (100, [(0, .ref 500), (1, .int q), (2, .int (nI f)), (4, .int ((nI k) + 1)), (5, .int 2)], [], [(500, mM z (nI K)), (502, a14 h), (513, .inr (.inl (0, ss))), (514, .inr (.inl (1, mt)))])) (ob := [ix 0 0 14, (h 0) ≤ 2]) rfl (ob_c (ix_of rfl) (ob_c (by rw [hn0]; exact n_le (b := 2) (by omega) (by omega) hnm) ob_n)) ?_
            refine J.lv (lv' := [(0, .ref 500), (1, .int q), (2, .int (nI f)), (4, .int ((nI k) + 1))]) [0, 1, 2, 3] rfl ?_
            exact J.cast (ih (k + 1) K ss mt (by omega) (by omega) hBf (Cl_s hCl e9 hx9.1 (fun m' _ hmn hb y hg => hCm m' (by omega) hmn hb y hg) hn)) (by simp only [nI_1])
          · have hbs : bs 2 = hB q 2 := (H 2 (by decide)).2.2.2.2.1
            refine J.run (sn_X7_isForEver F) 10 [0, 0] (S' := (128, [(0, .ref 500), (1, .int q), (2, .int (nI f)), (4, .int (nI k)), (5, .int 2)], [.int 1, .int (q >>> ((2 : Int32) &&& 31))], [(500, mM z (nI K)), (502, a14 h), (513, .inr (.inl (0, ss))), (514, .inr (.inl (1, mt)))])) (ob := [ix 0 0 14, ¬ (h 0) ≤ 2]) rfl (ob_c (ix_of rfl) (ob_c (by rw [hn0]; exact n_nle (b := 2) (by omega) (by omega) (by omega)) ob_n)) ?_
            cases hb1 : hB q 2
            · skip
              refine J.run (sn_X7_isForEver F) 10 [1, 1] (S' := (112, [(0, .ref 500), (1, .int q), (2, .int (nI f)), (4, .int (nI k)), (5, .int 3), (6, .int (-1))], [], [(500, mM z (nI K)), (502, a14 h), (513, .inr (.inl (0, ss))), (514, .inr (.inl (1, mt)))])) (ob := [¬ ((q >>> ((2 : Int32) &&& 31)) &&& 1) = 1, ((-1) : Int32) = (-1)]) rfl (ob_c (hB_f hb1) (ob_c (by decide) ob_n)) ?_
              refine J.lv (lv' := [(0, .ref 500), (1, .int q), (2, .int (nI f)), (4, .int (nI k)), (5, .int 3)]) [0, 1, 2, 3, 4] rfl ?_
              exact I3 K ss mt hBf hlt e9 hCl (Cm_s hCm (fun _ hb2 => absurd (hb2.symm.trans (hbs.trans hb1)) (by decide)))
            · skip
              refine J.run (sn_X7_isForEver F) 8 [0, k] (S' := (141, [(0, .ref 500), (1, .int q), (2, .int (nI f)), (4, .int (nI k)), (5, .int 2)], [.int (gi ss k), .ref 500], [(500, mM z (nI K)), (502, a14 h), (513, .inr (.inl (0, ss))), (514, .inr (.inl (1, mt)))])) (ob := [((q >>> ((2 : Int32) &&& 31)) &&& 1) = 1, ix (nI k) k ss.length]) rfl (ob_c (hB_t hb1) (ob_c (ix_len hss (ix_nI (by omega) (by decide))) ob_n)) ?_
              rw [e9]
              refine J.run (sn_X7_isForEver F) 2 [] (S' := (144, [(0, .ref 500), (1, .int q), (2, .int (nI f)), (4, .int (nI k)), (5, .int 2)], [.int 2, .int q, .int (nI x9), .ref 500], [(500, mM z (nI K)), (502, a14 h), (513, .inr (.inl (0, ss))), (514, .inr (.inl (1, mt)))])) (ob := []) rfl (ob_n) ?_
              refine J.callVK F hJ lk_X7_209 im_X7_goesOn se_X7_goesOn (by decide +kernel) (c_goes2 (gi [0, z 1, 0, 0, 0, 0, 0, 0, 0, 0, 0, z 11, 0, 0, z 14, z 15, z 16, z 17, z 18, z 19, z 20, z 21, z 22, z 23, 0, 0, nI K]) h (nI x9) q) (fun k => k) (by decide) [] [500, 502] rfl rfl rfl rfl rfl rfl (by decide +kernel) rfl (by decide +kernel) (fun r ws' hk hp => ?_)
              obtain ⟨rfl, rfl⟩ := hp
              show J x 7 (ad, 0, 0) (147, [(0, .ref 500), (1, .int q), (2, .int (nI f)), (4, .int (nI k)), (5, .int 2)], [.int (goN h q 2 (nI x9))], [(500, mM z (nI K)), (502, a14 h), (513, .inr (.inl (0, ss))), (514, .inr (.inl (1, mt)))])
              rw [goN_N H (w := 2) (by decide) hx31]
              cases hg : gst B R bs 2 x9
              · skip
                show J x 7 (ad, 0, 0) (147, [(0, .ref 500), (1, .int q), (2, .int (nI f)), (4, .int (nI k)), (5, .int 2)], [.int (-1)], [(500, mM z (nI K)), (502, a14 h), (513, .inr (.inl (0, ss))), (514, .inr (.inl (1, mt)))])
                refine J.run (sn_X7_isForEver F) 7 [1] (S' := (112, [(0, .ref 500), (1, .int q), (2, .int (nI f)), (4, .int (nI k)), (5, .int 3), (6, .int (-1))], [], [(500, mM z (nI K)), (502, a14 h), (513, .inr (.inl (0, ss))), (514, .inr (.inl (1, mt)))])) (ob := [((-1) : Int32) = (-1)]) rfl (ob_c (by decide) ob_n) ?_
                refine J.lv (lv' := [(0, .ref 500), (1, .int q), (2, .int (nI f)), (4, .int (nI k)), (5, .int 3)]) [0, 1, 2, 3, 4] rfl ?_
                exact I3 K ss mt hBf hlt e9 hCl (Cm_s hCm (fun _ _ y hy2 => by rw [hg] at hy2; cases hy2))
              rename_i y
              · skip
                have hvy := gst_ok H hx9 hg
                have hy31 : y < 2 ^ 31 := Nat.lt_trans hvy.1 (by decide)
                show J x 7 (ad, 0, 0) (147, [(0, .ref 500), (1, .int q), (2, .int (nI f)), (4, .int (nI k)), (5, .int 2)], [.int (nI y)], [(500, mM z (nI K)), (502, a14 h), (513, .inr (.inl (0, ss))), (514, .inr (.inl (1, mt)))])
                by_cases h2 : (gi mt y) = 0
                · skip
                  refine J.run (sn_X7_isForEver F) 10 [0, y, 0] (S' := (169, [(0, .ref 500), (1, .int q), (2, .int (nI f)), (4, .int (nI k)), (5, .int 2), (6, .int (nI y))], [], [(500, mM z (nI K)), (502, a14 h), (513, .inr (.inl (0, ss))), (514, .inr (.inl (1, mt)))])) (ob := [¬ (nI y) = (-1), ix (nI y) y mt.length, (gi mt y) = 0]) rfl (ob_c (nI_m1 hy31) (ob_c (ix_len hmt (ix_nI hvy.1 (by decide))) (ob_c h2 ob_n))) ?_
                  obtain ⟨hK9, hBn⟩ := Bf_new hBf hvy h2
                  refine J.run (sn_X7_isForEver F) 10 [y] (S' := (187, [(0, .ref 500), (1, .int q), (2, .int (nI f)), (4, .int (nI k)), (5, .int 2), (6, .int (nI y))], [.int (nI y), .int (nI K), .ref 513], [(500, mM z (nI K)), (502, a14 h), (513, .inr (.inl (0, ss))), (514, .inr (.inl (1, (mt.set y 1))))])) (ob := [ix (nI y) y mt.length]) rfl (ob_c (ix_len hmt (ix_nI hvy.1 (by decide))) ob_n) ?_
                  refine J.run (sn_X7_isForEver F) 9 [K] (S' := (112, [(0, .ref 500), (1, .int q), (2, .int (nI f)), (4, .int (nI k)), (5, .int 3), (6, .int (nI y))], [], [(500, .inl (7, [.ref 501, .int (z 1), .ref 502, .ref 503, .ref 504, .ref 505, .ref 506, .ref 507, .ref 508, .ref 509, .ref 510, .int (z 11), .ref 511, .ref 512, .int (z 14), .int (z 15), .int (z 16), .int (z 17), .int (z 18), .int (z 19), .int (z 20), .int (z 21), .int (z 22), .int (z 23), .ref 513, .ref 514, .int ((nI K) + 1)])), (502, a14 h), (513, .inr (.inl (0, (ss.set K (nI y))))), (514, .inr (.inl (1, (mt.set y 1))))])) (ob := [ix (nI K) K ss.length]) rfl (ob_c (ix_len hss (ix_nI hK9 (by decide))) ob_n) ?_
                  refine J.lv (lv' := [(0, .ref 500), (1, .int q), (2, .int (nI f)), (4, .int (nI k)), (5, .int 3)]) [0, 1, 2, 3, 4] rfl ?_
                  exact J.cast (I3 (K + 1) (ss.set K (nI y)) (mt.set y 1) hBn (by omega) (by rw [gi_set_ne (by omega)]; exact e9) (Cl_new (by omega) hCl (by rw [hmt]; exact hvy.1)) (Cm_s (Cm_new hCm (by rw [hmt]; exact hvy.1)) (fun _ _ y2 hy2 => by rw [hg] at hy2; cases hy2; exact gi_set_eq (by rw [hmt]; exact hvy.1)))) (by simp only [nI_1, mM])
                · skip
                  refine J.run (sn_X7_isForEver F) 10 [0, y, 1] (S' := (198, [(0, .ref 500), (1, .int q), (2, .int (nI f)), (4, .int (nI k)), (5, .int 2), (6, .int (nI y))], [], [(500, mM z (nI K)), (502, a14 h), (513, .inr (.inl (0, ss))), (514, .inr (.inl (1, mt)))])) (ob := [¬ (nI y) = (-1), ix (nI y) y mt.length, ¬ (gi mt y) = 0]) rfl (ob_c (nI_m1 hy31) (ob_c (ix_len hmt (ix_nI hvy.1 (by decide))) (ob_c h2 ob_n))) ?_
                  refine J.run (sn_X7_isForEver F) 2 [] (S' := (112, [(0, .ref 500), (1, .int q), (2, .int (nI f)), (4, .int (nI k)), (5, .int 3), (6, .int (nI y))], [], [(500, mM z (nI K)), (502, a14 h), (513, .inr (.inl (0, ss))), (514, .inr (.inl (1, mt)))])) (ob := []) rfl (ob_n) ?_
                  refine J.lv (lv' := [(0, .ref 500), (1, .int q), (2, .int (nI f)), (4, .int (nI k)), (5, .int 3)]) [0, 1, 2, 3, 4] rfl ?_
                  exact I3 K ss mt hBf hlt e9 hCl (Cm_s hCm (fun _ _ y2 hy2 => by rw [hg] at hy2; cases hy2; exact (hB6 y hvy.1).elim (fun z => absurd z h2) (fun z => z.1)))
        have I1 : ∀ (K : Nat) (ss mt : List Int32), Bf B R bs f K ss mt → k < K → gi ss k = nI x9 → Cl B R bs n k ss mt → Cm B R bs n x9 1 mt → J x 7 (ad, 0, 0) (112, [(0, .ref 500), (1, .int q), (2, .int (nI f)), (4, .int (nI k)), (5, .int 1)], [], [(500, mM z (nI K)), (502, a14 h), (513, .inr (.inl (0, ss))), (514, .inr (.inl (1, mt)))]) := by
          intro K ss mt hBf hlt e9 hCl hCm
          obtain ⟨hss, hmt, hB3, hB4, hB5, hB6, hB7⟩ := id hBf
          have hKb := Bf_K hBf
          by_cases hnm : n ≤ 1
          · skip
            refine J.run (sn_X7_isForEver F) 8 [0, 1] (S' := (100, [(0, .ref 500), (1, .int q), (2, .int (nI f)), (4, .int ((nI k) + 1)), (5, .int 1)], [], [(500, mM z (nI K)), (502, a14 h), (513, .inr (.inl (0, ss))), (514, .inr (.inl (1, mt)))])) (ob := [ix 0 0 14, (h 0) ≤ 1]) rfl (ob_c (ix_of rfl) (ob_c (by rw [hn0]; exact n_le (b := 1) (by omega) (by omega) hnm) ob_n)) ?_
            refine J.lv (lv' := [(0, .ref 500), (1, .int q), (2, .int (nI f)), (4, .int ((nI k) + 1))]) [0, 1, 2, 3] rfl ?_
            exact J.cast (ih (k + 1) K ss mt (by omega) (by omega) hBf (Cl_s hCl e9 hx9.1 (fun m' _ hmn hb y hg => hCm m' (by omega) hmn hb y hg) hn)) (by simp only [nI_1])
          · have hbs : bs 1 = hB q 1 := (H 1 (by decide)).2.2.2.2.1
            refine J.run (sn_X7_isForEver F) 10 [0, 0] (S' := (128, [(0, .ref 500), (1, .int q), (2, .int (nI f)), (4, .int (nI k)), (5, .int 1)], [.int 1, .int (q >>> ((1 : Int32) &&& 31))], [(500, mM z (nI K)), (502, a14 h), (513, .inr (.inl (0, ss))), (514, .inr (.inl (1, mt)))])) (ob := [ix 0 0 14, ¬ (h 0) ≤ 1]) rfl (ob_c (ix_of rfl) (ob_c (by rw [hn0]; exact n_nle (b := 1) (by omega) (by omega) (by omega)) ob_n)) ?_
            cases hb1 : hB q 1
            · skip
              refine J.run (sn_X7_isForEver F) 10 [1, 1] (S' := (112, [(0, .ref 500), (1, .int q), (2, .int (nI f)), (4, .int (nI k)), (5, .int 2), (6, .int (-1))], [], [(500, mM z (nI K)), (502, a14 h), (513, .inr (.inl (0, ss))), (514, .inr (.inl (1, mt)))])) (ob := [¬ ((q >>> ((1 : Int32) &&& 31)) &&& 1) = 1, ((-1) : Int32) = (-1)]) rfl (ob_c (hB_f hb1) (ob_c (by decide) ob_n)) ?_
              refine J.lv (lv' := [(0, .ref 500), (1, .int q), (2, .int (nI f)), (4, .int (nI k)), (5, .int 2)]) [0, 1, 2, 3, 4] rfl ?_
              exact I2 K ss mt hBf hlt e9 hCl (Cm_s hCm (fun _ hb2 => absurd (hb2.symm.trans (hbs.trans hb1)) (by decide)))
            · skip
              refine J.run (sn_X7_isForEver F) 8 [0, k] (S' := (141, [(0, .ref 500), (1, .int q), (2, .int (nI f)), (4, .int (nI k)), (5, .int 1)], [.int (gi ss k), .ref 500], [(500, mM z (nI K)), (502, a14 h), (513, .inr (.inl (0, ss))), (514, .inr (.inl (1, mt)))])) (ob := [((q >>> ((1 : Int32) &&& 31)) &&& 1) = 1, ix (nI k) k ss.length]) rfl (ob_c (hB_t hb1) (ob_c (ix_len hss (ix_nI (by omega) (by decide))) ob_n)) ?_
              rw [e9]
              refine J.run (sn_X7_isForEver F) 2 [] (S' := (144, [(0, .ref 500), (1, .int q), (2, .int (nI f)), (4, .int (nI k)), (5, .int 1)], [.int 1, .int q, .int (nI x9), .ref 500], [(500, mM z (nI K)), (502, a14 h), (513, .inr (.inl (0, ss))), (514, .inr (.inl (1, mt)))])) (ob := []) rfl (ob_n) ?_
              refine J.callVK F hJ lk_X7_209 im_X7_goesOn se_X7_goesOn (by decide +kernel) (c_goes1 (gi [0, z 1, 0, 0, 0, 0, 0, 0, 0, 0, 0, z 11, 0, 0, z 14, z 15, z 16, z 17, z 18, z 19, z 20, z 21, z 22, z 23, 0, 0, nI K]) h (nI x9) q) (fun k => k) (by decide) [] [500, 502] rfl rfl rfl rfl rfl rfl (by decide +kernel) rfl (by decide +kernel) (fun r ws' hk hp => ?_)
              obtain ⟨rfl, rfl⟩ := hp
              show J x 7 (ad, 0, 0) (147, [(0, .ref 500), (1, .int q), (2, .int (nI f)), (4, .int (nI k)), (5, .int 1)], [.int (goN h q 1 (nI x9))], [(500, mM z (nI K)), (502, a14 h), (513, .inr (.inl (0, ss))), (514, .inr (.inl (1, mt)))])
              rw [goN_N H (w := 1) (by decide) hx31]
              cases hg : gst B R bs 1 x9
              · skip
                show J x 7 (ad, 0, 0) (147, [(0, .ref 500), (1, .int q), (2, .int (nI f)), (4, .int (nI k)), (5, .int 1)], [.int (-1)], [(500, mM z (nI K)), (502, a14 h), (513, .inr (.inl (0, ss))), (514, .inr (.inl (1, mt)))])
                refine J.run (sn_X7_isForEver F) 7 [1] (S' := (112, [(0, .ref 500), (1, .int q), (2, .int (nI f)), (4, .int (nI k)), (5, .int 2), (6, .int (-1))], [], [(500, mM z (nI K)), (502, a14 h), (513, .inr (.inl (0, ss))), (514, .inr (.inl (1, mt)))])) (ob := [((-1) : Int32) = (-1)]) rfl (ob_c (by decide) ob_n) ?_
                refine J.lv (lv' := [(0, .ref 500), (1, .int q), (2, .int (nI f)), (4, .int (nI k)), (5, .int 2)]) [0, 1, 2, 3, 4] rfl ?_
                exact I2 K ss mt hBf hlt e9 hCl (Cm_s hCm (fun _ _ y hy2 => by rw [hg] at hy2; cases hy2))
              rename_i y
              · skip
                have hvy := gst_ok H hx9 hg
                have hy31 : y < 2 ^ 31 := Nat.lt_trans hvy.1 (by decide)
                show J x 7 (ad, 0, 0) (147, [(0, .ref 500), (1, .int q), (2, .int (nI f)), (4, .int (nI k)), (5, .int 1)], [.int (nI y)], [(500, mM z (nI K)), (502, a14 h), (513, .inr (.inl (0, ss))), (514, .inr (.inl (1, mt)))])
                by_cases h2 : (gi mt y) = 0
                · skip
                  refine J.run (sn_X7_isForEver F) 10 [0, y, 0] (S' := (169, [(0, .ref 500), (1, .int q), (2, .int (nI f)), (4, .int (nI k)), (5, .int 1), (6, .int (nI y))], [], [(500, mM z (nI K)), (502, a14 h), (513, .inr (.inl (0, ss))), (514, .inr (.inl (1, mt)))])) (ob := [¬ (nI y) = (-1), ix (nI y) y mt.length, (gi mt y) = 0]) rfl (ob_c (nI_m1 hy31) (ob_c (ix_len hmt (ix_nI hvy.1 (by decide))) (ob_c h2 ob_n))) ?_
                  obtain ⟨hK9, hBn⟩ := Bf_new hBf hvy h2
                  refine J.run (sn_X7_isForEver F) 10 [y] (S' := (187, [(0, .ref 500), (1, .int q), (2, .int (nI f)), (4, .int (nI k)), (5, .int 1), (6, .int (nI y))], [.int (nI y), .int (nI K), .ref 513], [(500, mM z (nI K)), (502, a14 h), (513, .inr (.inl (0, ss))), (514, .inr (.inl (1, (mt.set y 1))))])) (ob := [ix (nI y) y mt.length]) rfl (ob_c (ix_len hmt (ix_nI hvy.1 (by decide))) ob_n) ?_
                  refine J.run (sn_X7_isForEver F) 9 [K] (S' := (112, [(0, .ref 500), (1, .int q), (2, .int (nI f)), (4, .int (nI k)), (5, .int 2), (6, .int (nI y))], [], [(500, .inl (7, [.ref 501, .int (z 1), .ref 502, .ref 503, .ref 504, .ref 505, .ref 506, .ref 507, .ref 508, .ref 509, .ref 510, .int (z 11), .ref 511, .ref 512, .int (z 14), .int (z 15), .int (z 16), .int (z 17), .int (z 18), .int (z 19), .int (z 20), .int (z 21), .int (z 22), .int (z 23), .ref 513, .ref 514, .int ((nI K) + 1)])), (502, a14 h), (513, .inr (.inl (0, (ss.set K (nI y))))), (514, .inr (.inl (1, (mt.set y 1))))])) (ob := [ix (nI K) K ss.length]) rfl (ob_c (ix_len hss (ix_nI hK9 (by decide))) ob_n) ?_
                  refine J.lv (lv' := [(0, .ref 500), (1, .int q), (2, .int (nI f)), (4, .int (nI k)), (5, .int 2)]) [0, 1, 2, 3, 4] rfl ?_
                  exact J.cast (I2 (K + 1) (ss.set K (nI y)) (mt.set y 1) hBn (by omega) (by rw [gi_set_ne (by omega)]; exact e9) (Cl_new (by omega) hCl (by rw [hmt]; exact hvy.1)) (Cm_s (Cm_new hCm (by rw [hmt]; exact hvy.1)) (fun _ _ y2 hy2 => by rw [hg] at hy2; cases hy2; exact gi_set_eq (by rw [hmt]; exact hvy.1)))) (by simp only [nI_1, mM])
                · skip
                  refine J.run (sn_X7_isForEver F) 10 [0, y, 1] (S' := (198, [(0, .ref 500), (1, .int q), (2, .int (nI f)), (4, .int (nI k)), (5, .int 1), (6, .int (nI y))], [], [(500, mM z (nI K)), (502, a14 h), (513, .inr (.inl (0, ss))), (514, .inr (.inl (1, mt)))])) (ob := [¬ (nI y) = (-1), ix (nI y) y mt.length, ¬ (gi mt y) = 0]) rfl (ob_c (nI_m1 hy31) (ob_c (ix_len hmt (ix_nI hvy.1 (by decide))) (ob_c h2 ob_n))) ?_
                  refine J.run (sn_X7_isForEver F) 2 [] (S' := (112, [(0, .ref 500), (1, .int q), (2, .int (nI f)), (4, .int (nI k)), (5, .int 2), (6, .int (nI y))], [], [(500, mM z (nI K)), (502, a14 h), (513, .inr (.inl (0, ss))), (514, .inr (.inl (1, mt)))])) (ob := []) rfl (ob_n) ?_
                  refine J.lv (lv' := [(0, .ref 500), (1, .int q), (2, .int (nI f)), (4, .int (nI k)), (5, .int 2)]) [0, 1, 2, 3, 4] rfl ?_
                  exact I2 K ss mt hBf hlt e9 hCl (Cm_s hCm (fun _ _ y2 hy2 => by rw [hg] at hy2; cases hy2; exact (hB6 y hvy.1).elim (fun z => absurd z h2) (fun z => z.1)))
        have I0 : ∀ (K : Nat) (ss mt : List Int32), Bf B R bs f K ss mt → k < K → gi ss k = nI x9 → Cl B R bs n k ss mt → Cm B R bs n x9 0 mt → J x 7 (ad, 0, 0) (112, [(0, .ref 500), (1, .int q), (2, .int (nI f)), (4, .int (nI k)), (5, .int 0)], [], [(500, mM z (nI K)), (502, a14 h), (513, .inr (.inl (0, ss))), (514, .inr (.inl (1, mt)))]) := by
          intro K ss mt hBf hlt e9 hCl hCm
          obtain ⟨hss, hmt, hB3, hB4, hB5, hB6, hB7⟩ := id hBf
          have hKb := Bf_K hBf
          by_cases hnm : n ≤ 0
          · skip
            refine J.run (sn_X7_isForEver F) 8 [0, 1] (S' := (100, [(0, .ref 500), (1, .int q), (2, .int (nI f)), (4, .int ((nI k) + 1)), (5, .int 0)], [], [(500, mM z (nI K)), (502, a14 h), (513, .inr (.inl (0, ss))), (514, .inr (.inl (1, mt)))])) (ob := [ix 0 0 14, (h 0) ≤ 0]) rfl (ob_c (ix_of rfl) (ob_c (by rw [hn0]; exact n_le (b := 0) (by omega) (by omega) hnm) ob_n)) ?_
            refine J.lv (lv' := [(0, .ref 500), (1, .int q), (2, .int (nI f)), (4, .int ((nI k) + 1))]) [0, 1, 2, 3] rfl ?_
            exact J.cast (ih (k + 1) K ss mt (by omega) (by omega) hBf (Cl_s hCl e9 hx9.1 (fun m' _ hmn hb y hg => hCm m' (by omega) hmn hb y hg) hn)) (by simp only [nI_1])
          · have hbs : bs 0 = hB q 0 := (H 0 (by decide)).2.2.2.2.1
            refine J.run (sn_X7_isForEver F) 10 [0, 0] (S' := (128, [(0, .ref 500), (1, .int q), (2, .int (nI f)), (4, .int (nI k)), (5, .int 0)], [.int 1, .int (q >>> ((0 : Int32) &&& 31))], [(500, mM z (nI K)), (502, a14 h), (513, .inr (.inl (0, ss))), (514, .inr (.inl (1, mt)))])) (ob := [ix 0 0 14, ¬ (h 0) ≤ 0]) rfl (ob_c (ix_of rfl) (ob_c (by rw [hn0]; exact n_nle (b := 0) (by omega) (by omega) (by omega)) ob_n)) ?_
            cases hb1 : hB q 0
            · skip
              refine J.run (sn_X7_isForEver F) 10 [1, 1] (S' := (112, [(0, .ref 500), (1, .int q), (2, .int (nI f)), (4, .int (nI k)), (5, .int 1), (6, .int (-1))], [], [(500, mM z (nI K)), (502, a14 h), (513, .inr (.inl (0, ss))), (514, .inr (.inl (1, mt)))])) (ob := [¬ ((q >>> ((0 : Int32) &&& 31)) &&& 1) = 1, ((-1) : Int32) = (-1)]) rfl (ob_c (hB_f hb1) (ob_c (by decide) ob_n)) ?_
              refine J.lv (lv' := [(0, .ref 500), (1, .int q), (2, .int (nI f)), (4, .int (nI k)), (5, .int 1)]) [0, 1, 2, 3, 4] rfl ?_
              exact I1 K ss mt hBf hlt e9 hCl (Cm_s hCm (fun _ hb2 => absurd (hb2.symm.trans (hbs.trans hb1)) (by decide)))
            · skip
              refine J.run (sn_X7_isForEver F) 8 [0, k] (S' := (141, [(0, .ref 500), (1, .int q), (2, .int (nI f)), (4, .int (nI k)), (5, .int 0)], [.int (gi ss k), .ref 500], [(500, mM z (nI K)), (502, a14 h), (513, .inr (.inl (0, ss))), (514, .inr (.inl (1, mt)))])) (ob := [((q >>> ((0 : Int32) &&& 31)) &&& 1) = 1, ix (nI k) k ss.length]) rfl (ob_c (hB_t hb1) (ob_c (ix_len hss (ix_nI (by omega) (by decide))) ob_n)) ?_
              rw [e9]
              refine J.run (sn_X7_isForEver F) 2 [] (S' := (144, [(0, .ref 500), (1, .int q), (2, .int (nI f)), (4, .int (nI k)), (5, .int 0)], [.int 0, .int q, .int (nI x9), .ref 500], [(500, mM z (nI K)), (502, a14 h), (513, .inr (.inl (0, ss))), (514, .inr (.inl (1, mt)))])) (ob := []) rfl (ob_n) ?_
              refine J.callVK F hJ lk_X7_209 im_X7_goesOn se_X7_goesOn (by decide +kernel) (c_goes0 (gi [0, z 1, 0, 0, 0, 0, 0, 0, 0, 0, 0, z 11, 0, 0, z 14, z 15, z 16, z 17, z 18, z 19, z 20, z 21, z 22, z 23, 0, 0, nI K]) h (nI x9) q) (fun k => k) (by decide) [] [500, 502] rfl rfl rfl rfl rfl rfl (by decide +kernel) rfl (by decide +kernel) (fun r ws' hk hp => ?_)
              obtain ⟨rfl, rfl⟩ := hp
              show J x 7 (ad, 0, 0) (147, [(0, .ref 500), (1, .int q), (2, .int (nI f)), (4, .int (nI k)), (5, .int 0)], [.int (goN h q 0 (nI x9))], [(500, mM z (nI K)), (502, a14 h), (513, .inr (.inl (0, ss))), (514, .inr (.inl (1, mt)))])
              rw [goN_N H (w := 0) (by decide) hx31]
              cases hg : gst B R bs 0 x9
              · skip
                show J x 7 (ad, 0, 0) (147, [(0, .ref 500), (1, .int q), (2, .int (nI f)), (4, .int (nI k)), (5, .int 0)], [.int (-1)], [(500, mM z (nI K)), (502, a14 h), (513, .inr (.inl (0, ss))), (514, .inr (.inl (1, mt)))])
                refine J.run (sn_X7_isForEver F) 7 [1] (S' := (112, [(0, .ref 500), (1, .int q), (2, .int (nI f)), (4, .int (nI k)), (5, .int 1), (6, .int (-1))], [], [(500, mM z (nI K)), (502, a14 h), (513, .inr (.inl (0, ss))), (514, .inr (.inl (1, mt)))])) (ob := [((-1) : Int32) = (-1)]) rfl (ob_c (by decide) ob_n) ?_
                refine J.lv (lv' := [(0, .ref 500), (1, .int q), (2, .int (nI f)), (4, .int (nI k)), (5, .int 1)]) [0, 1, 2, 3, 4] rfl ?_
                exact I1 K ss mt hBf hlt e9 hCl (Cm_s hCm (fun _ _ y hy2 => by rw [hg] at hy2; cases hy2))
              rename_i y
              · skip
                have hvy := gst_ok H hx9 hg
                have hy31 : y < 2 ^ 31 := Nat.lt_trans hvy.1 (by decide)
                show J x 7 (ad, 0, 0) (147, [(0, .ref 500), (1, .int q), (2, .int (nI f)), (4, .int (nI k)), (5, .int 0)], [.int (nI y)], [(500, mM z (nI K)), (502, a14 h), (513, .inr (.inl (0, ss))), (514, .inr (.inl (1, mt)))])
                by_cases h2 : (gi mt y) = 0
                · skip
                  refine J.run (sn_X7_isForEver F) 10 [0, y, 0] (S' := (169, [(0, .ref 500), (1, .int q), (2, .int (nI f)), (4, .int (nI k)), (5, .int 0), (6, .int (nI y))], [], [(500, mM z (nI K)), (502, a14 h), (513, .inr (.inl (0, ss))), (514, .inr (.inl (1, mt)))])) (ob := [¬ (nI y) = (-1), ix (nI y) y mt.length, (gi mt y) = 0]) rfl (ob_c (nI_m1 hy31) (ob_c (ix_len hmt (ix_nI hvy.1 (by decide))) (ob_c h2 ob_n))) ?_
                  obtain ⟨hK9, hBn⟩ := Bf_new hBf hvy h2
                  refine J.run (sn_X7_isForEver F) 10 [y] (S' := (187, [(0, .ref 500), (1, .int q), (2, .int (nI f)), (4, .int (nI k)), (5, .int 0), (6, .int (nI y))], [.int (nI y), .int (nI K), .ref 513], [(500, mM z (nI K)), (502, a14 h), (513, .inr (.inl (0, ss))), (514, .inr (.inl (1, (mt.set y 1))))])) (ob := [ix (nI y) y mt.length]) rfl (ob_c (ix_len hmt (ix_nI hvy.1 (by decide))) ob_n) ?_
                  refine J.run (sn_X7_isForEver F) 9 [K] (S' := (112, [(0, .ref 500), (1, .int q), (2, .int (nI f)), (4, .int (nI k)), (5, .int 1), (6, .int (nI y))], [], [(500, .inl (7, [.ref 501, .int (z 1), .ref 502, .ref 503, .ref 504, .ref 505, .ref 506, .ref 507, .ref 508, .ref 509, .ref 510, .int (z 11), .ref 511, .ref 512, .int (z 14), .int (z 15), .int (z 16), .int (z 17), .int (z 18), .int (z 19), .int (z 20), .int (z 21), .int (z 22), .int (z 23), .ref 513, .ref 514, .int ((nI K) + 1)])), (502, a14 h), (513, .inr (.inl (0, (ss.set K (nI y))))), (514, .inr (.inl (1, (mt.set y 1))))])) (ob := [ix (nI K) K ss.length]) rfl (ob_c (ix_len hss (ix_nI hK9 (by decide))) ob_n) ?_
                  refine J.lv (lv' := [(0, .ref 500), (1, .int q), (2, .int (nI f)), (4, .int (nI k)), (5, .int 1)]) [0, 1, 2, 3, 4] rfl ?_
                  exact J.cast (I1 (K + 1) (ss.set K (nI y)) (mt.set y 1) hBn (by omega) (by rw [gi_set_ne (by omega)]; exact e9) (Cl_new (by omega) hCl (by rw [hmt]; exact hvy.1)) (Cm_s (Cm_new hCm (by rw [hmt]; exact hvy.1)) (fun _ _ y2 hy2 => by rw [hg] at hy2; cases hy2; exact gi_set_eq (by rw [hmt]; exact hvy.1)))) (by simp only [nI_1, mM])
                · skip
                  refine J.run (sn_X7_isForEver F) 10 [0, y, 1] (S' := (198, [(0, .ref 500), (1, .int q), (2, .int (nI f)), (4, .int (nI k)), (5, .int 0), (6, .int (nI y))], [], [(500, mM z (nI K)), (502, a14 h), (513, .inr (.inl (0, ss))), (514, .inr (.inl (1, mt)))])) (ob := [¬ (nI y) = (-1), ix (nI y) y mt.length, ¬ (gi mt y) = 0]) rfl (ob_c (nI_m1 hy31) (ob_c (ix_len hmt (ix_nI hvy.1 (by decide))) (ob_c h2 ob_n))) ?_
                  refine J.run (sn_X7_isForEver F) 2 [] (S' := (112, [(0, .ref 500), (1, .int q), (2, .int (nI f)), (4, .int (nI k)), (5, .int 1), (6, .int (nI y))], [], [(500, mM z (nI K)), (502, a14 h), (513, .inr (.inl (0, ss))), (514, .inr (.inl (1, mt)))])) (ob := []) rfl (ob_n) ?_
                  refine J.lv (lv' := [(0, .ref 500), (1, .int q), (2, .int (nI f)), (4, .int (nI k)), (5, .int 1)]) [0, 1, 2, 3, 4] rfl ?_
                  exact I1 K ss mt hBf hlt e9 hCl (Cm_s hCm (fun _ _ y2 hy2 => by rw [hg] at hy2; cases hy2; exact (hB6 y hvy.1).elim (fun z => absurd z h2) (fun z => z.1)))
        refine J.run (sn_X7_isForEver F) 6 [0] (S' := (112, [(0, .ref 500), (1, .int q), (2, .int (nI f)), (4, .int (nI k)), (5, .int 0)], [], [(500, mM z (nI K)), (502, a14 h), (513, .inr (.inl (0, ss))), (514, .inr (.inl (1, mt)))])) (ob := [¬ (nI K) ≤ (nI k)]) rfl (ob_c (n_nle (by omega) (by omega) hlt) ob_n) ?_
        exact I0 K ss mt hBf hlt e9 hCl (fun m h => absurd h (Nat.not_lt_zero m))
      · have ek : k = K := by omega
        subst ek
        refine J.run (sn_X7_isForEver F) 6 [1] (S' := (213, [(0, .ref 500), (1, .int q), (2, .int (nI f)), (4, .int 1)], [], [(500, mM z (nI k)), (502, a14 h), (513, .inr (.inl (0, ss))), (514, .inr (.inl (1, mt)))])) (ob := [(nI k) ≤ (nI k)]) rfl (ob_c (n_le (by omega) (by omega) (Nat.le_refl _)) ob_n) ?_
        exact HW (cnt 1 mt 50625) k ss mt (Bf_Pr H hBf hCl) ⟨0, hBf.2.2.1, hBf.2.2.2.2.2.2⟩ (Nat.le_refl _)
  have HZ : ∀ (N k : Nat) (mt : List Int32), k + N = 50625 → mt.length = 50625 → (∀ j, j < k → gi mt j = 0) → J x 7 (ad, 0, 0) (57, [(0, .ref 500), (1, .int q), (2, .int (nI f)), (4, .int (nI k))], [], [(500, mM z K0), (502, a14 h), (513, .inr (.inl (0, s9))), (514, .inr (.inl (1, mt)))]) := by
    intro N
    induction N with
    | zero =>
      intro k mt hkN hmt h0
      have ek : k = 50625 := by omega
      subst ek
      refine J.run (sn_X7_isForEver F) 10 [1, 0] (S' := (89, [(0, .ref 500), (1, .int q), (2, .int (nI f)), (4, .int (nI 50625))], [.ref 514], [(500, mM z K0), (502, a14 h), (513, .inr (.inl (0, (s9.set 0 (nI f))))), (514, .inr (.inl (1, mt)))])) (ob := [50625 ≤ (nI 50625), ix 0 0 s9.length]) rfl (ob_c (by decide) (ob_c (ix_len hs9 (ix_of rfl)) ob_n)) ?_
      refine J.run (sn_X7_isForEver F) 8 [f] (S' := (100, [(0, .ref 500), (1, .int q), (2, .int (nI f)), (4, .int 0)], [], [(500, .inl (7, [.ref 501, .int (z 1), .ref 502, .ref 503, .ref 504, .ref 505, .ref 506, .ref 507, .ref 508, .ref 509, .ref 510, .int (z 11), .ref 511, .ref 512, .int (z 14), .int (z 15), .int (z 16), .int (z 17), .int (z 18), .int (z 19), .int (z 20), .int (z 21), .int (z 22), .int (z 23), .ref 513, .ref 514, .int 1])), (502, a14 h), (513, .inr (.inl (0, (s9.set 0 (nI f))))), (514, .inr (.inl (1, (mt.set f 1))))])) (ob := [ix (nI f) f mt.length]) rfl (ob_c (ix_len hmt (ix_nI hf.1 (by decide))) ob_n) ?_
      exact J.cast (HB 50625 0 1 (s9.set 0 (nI f)) (mt.set f 1) rfl (Nat.zero_le 1) (Bf_0 hs9 hmt hf h0) (fun i hi => absurd hi (Nat.not_lt_zero i))) rfl
    | succ N ih =>
      intro k mt hkN hmt h0
      refine J.run (sn_X7_isForEver F) 10 [0, k] (S' := (57, [(0, .ref 500), (1, .int q), (2, .int (nI f)), (4, .int ((nI k) + 1))], [], [(500, mM z K0), (502, a14 h), (513, .inr (.inl (0, s9))), (514, .inr (.inl (1, (mt.set k 0))))])) (ob := [¬ 50625 ≤ (nI k), ix (nI k) k mt.length]) rfl (ob_c (n_nle (a := 50625) (by omega) (by omega) (by omega)) (ob_c (ix_len hmt (ix_nI (by omega) (by decide))) ob_n)) ?_
      exact J.cast (ih (k + 1) (mt.set k 0) (by omega) (by rw [List.length_set]; exact hmt) (fun j hj => if e : k = j then (by rw [← e]; exact gi_set_eq (by rw [hmt]; omega)) else (by rw [gi_set_ne e]; exact h0 j (by omega)))) (by simp only [nI_1])
  have F4 : J x 7 (ad, 0, 0) (7, [(0, .ref 500), (1, .int q), (2, .int (fiT h q 4)), (3, .int 50625), (4, .int 4)], [], [(500, mM z K0), (502, a14 h), (513, .inr (.inl (0, s9))), (514, .inr (.inl (1, m9)))]) := by
    refine J.run (sn_X7_isForEver F) 5 [1] (S' := (57, [(0, .ref 500), (1, .int q), (2, .int (fiT h q 4)), (3, .int 50625), (4, .int 0)], [], [(500, mM z K0), (502, a14 h), (513, .inr (.inl (0, s9))), (514, .inr (.inl (1, m9)))])) (ob := [4 ≤ (4 : Int32)]) rfl (ob_c (by decide) ob_n) ?_
    refine J.lv (lv' := [(0, .ref 500), (1, .int q), (2, .int (fiT h q 4)), (4, .int 0)]) [0, 1, 2, 4] rfl ?_
    rw [hfT]
    exact HZ 50625 0 m9 rfl hm9 (fun j h => absurd h (Nat.not_lt_zero j))
  have F3 : J x 7 (ad, 0, 0) (7, [(0, .ref 500), (1, .int q), (2, .int (fiT h q 3)), (3, .int 3375), (4, .int 3)], [], [(500, mM z K0), (502, a14 h), (513, .inr (.inl (0, s9))), (514, .inr (.inl (1, m9)))]) := by
    refine J.run (sn_X7_isForEver F) 10 [0] (S' := (21, [(0, .ref 500), (1, .int q), (2, .int (fiT h q 3)), (3, .int 3375), (4, .int 3)], [.int 1, .int ((q >>> ((3 : Int32) &&& 31)) &&& 1), .int (fiT h q 3)], [(500, mM z K0), (502, a14 h), (513, .inr (.inl (0, s9))), (514, .inr (.inl (1, m9)))])) (ob := [¬ 4 ≤ (3 : Int32)]) rfl (ob_c (by decide) ob_n) ?_
    cases hb1 : hB q 3
    · skip
      refine J.run (sn_X7_isForEver F) 10 [1] (S' := (7, [(0, .ref 500), (1, .int q), (2, .int ((fiT h q 3) + 0)), (3, .int 50625), (4, .int 4)], [], [(500, mM z K0), (502, a14 h), (513, .inr (.inl (0, s9))), (514, .inr (.inl (1, m9)))])) (ob := [¬ ((q >>> ((3 : Int32) &&& 31)) &&& 1) = 1]) rfl (ob_c (hB_f hb1) ob_n) ?_
      exact J.cast F4 (by simp only [fiT_4, hb1, ↓reduceIte, ite_self, Bool.false_eq_true, cond_true, cond_false, Bool.true_and, Bool.false_and, Bool.and_true, Bool.and_false, Bool.true_or, Bool.false_or, Bool.or_true, Bool.or_false, Bool.not_true, Bool.not_false, decide_true, decide_false, b2i_t, b2i_f])
    · skip
      refine J.run (sn_X7_isForEver F) 10 [0, 5] (S' := (36, [(0, .ref 500), (1, .int q), (2, .int (fiT h q 3)), (3, .int 3375), (4, .int 3)], [.int (h 5), .int 10125, .int (fiT h q 3)], [(500, mM z K0), (502, a14 h), (513, .inr (.inl (0, s9))), (514, .inr (.inl (1, m9)))])) (ob := [((q >>> ((3 : Int32) &&& 31)) &&& 1) = 1, ix 5 5 14]) rfl (ob_c (hB_t hb1) (ob_c (ix_of rfl) ob_n)) ?_
      refine J.run (sn_X7_isForEver F) 10 [] (S' := (7, [(0, .ref 500), (1, .int q), (2, .int ((fiT h q 3) + (10125 * (h 5)))), (3, .int 50625), (4, .int 4)], [], [(500, mM z K0), (502, a14 h), (513, .inr (.inl (0, s9))), (514, .inr (.inl (1, m9)))])) (ob := []) rfl (ob_n) ?_
      exact J.cast F4 (by simp only [fiT_4, hb1, ↓reduceIte, ite_self, Bool.false_eq_true, cond_true, cond_false, Bool.true_and, Bool.false_and, Bool.and_true, Bool.and_false, Bool.true_or, Bool.false_or, Bool.or_true, Bool.or_false, Bool.not_true, Bool.not_false, decide_true, decide_false, b2i_t, b2i_f])
  have F2 : J x 7 (ad, 0, 0) (7, [(0, .ref 500), (1, .int q), (2, .int (fiT h q 2)), (3, .int 225), (4, .int 2)], [], [(500, mM z K0), (502, a14 h), (513, .inr (.inl (0, s9))), (514, .inr (.inl (1, m9)))]) := by
    refine J.run (sn_X7_isForEver F) 10 [0] (S' := (21, [(0, .ref 500), (1, .int q), (2, .int (fiT h q 2)), (3, .int 225), (4, .int 2)], [.int 1, .int ((q >>> ((2 : Int32) &&& 31)) &&& 1), .int (fiT h q 2)], [(500, mM z K0), (502, a14 h), (513, .inr (.inl (0, s9))), (514, .inr (.inl (1, m9)))])) (ob := [¬ 4 ≤ (2 : Int32)]) rfl (ob_c (by decide) ob_n) ?_
    cases hb1 : hB q 2
    · skip
      refine J.run (sn_X7_isForEver F) 10 [1] (S' := (7, [(0, .ref 500), (1, .int q), (2, .int ((fiT h q 2) + 0)), (3, .int 3375), (4, .int 3)], [], [(500, mM z K0), (502, a14 h), (513, .inr (.inl (0, s9))), (514, .inr (.inl (1, m9)))])) (ob := [¬ ((q >>> ((2 : Int32) &&& 31)) &&& 1) = 1]) rfl (ob_c (hB_f hb1) ob_n) ?_
      exact J.cast F3 (by simp only [fiT_3, hb1, ↓reduceIte, ite_self, Bool.false_eq_true, cond_true, cond_false, Bool.true_and, Bool.false_and, Bool.and_true, Bool.and_false, Bool.true_or, Bool.false_or, Bool.or_true, Bool.or_false, Bool.not_true, Bool.not_false, decide_true, decide_false, b2i_t, b2i_f])
    · skip
      refine J.run (sn_X7_isForEver F) 10 [0, 4] (S' := (36, [(0, .ref 500), (1, .int q), (2, .int (fiT h q 2)), (3, .int 225), (4, .int 2)], [.int (h 4), .int 675, .int (fiT h q 2)], [(500, mM z K0), (502, a14 h), (513, .inr (.inl (0, s9))), (514, .inr (.inl (1, m9)))])) (ob := [((q >>> ((2 : Int32) &&& 31)) &&& 1) = 1, ix 4 4 14]) rfl (ob_c (hB_t hb1) (ob_c (ix_of rfl) ob_n)) ?_
      refine J.run (sn_X7_isForEver F) 10 [] (S' := (7, [(0, .ref 500), (1, .int q), (2, .int ((fiT h q 2) + (675 * (h 4)))), (3, .int 3375), (4, .int 3)], [], [(500, mM z K0), (502, a14 h), (513, .inr (.inl (0, s9))), (514, .inr (.inl (1, m9)))])) (ob := []) rfl (ob_n) ?_
      exact J.cast F3 (by simp only [fiT_3, hb1, ↓reduceIte, ite_self, Bool.false_eq_true, cond_true, cond_false, Bool.true_and, Bool.false_and, Bool.and_true, Bool.and_false, Bool.true_or, Bool.false_or, Bool.or_true, Bool.or_false, Bool.not_true, Bool.not_false, decide_true, decide_false, b2i_t, b2i_f])
  have F1 : J x 7 (ad, 0, 0) (7, [(0, .ref 500), (1, .int q), (2, .int (fiT h q 1)), (3, .int 15), (4, .int 1)], [], [(500, mM z K0), (502, a14 h), (513, .inr (.inl (0, s9))), (514, .inr (.inl (1, m9)))]) := by
    refine J.run (sn_X7_isForEver F) 10 [0] (S' := (21, [(0, .ref 500), (1, .int q), (2, .int (fiT h q 1)), (3, .int 15), (4, .int 1)], [.int 1, .int ((q >>> ((1 : Int32) &&& 31)) &&& 1), .int (fiT h q 1)], [(500, mM z K0), (502, a14 h), (513, .inr (.inl (0, s9))), (514, .inr (.inl (1, m9)))])) (ob := [¬ 4 ≤ (1 : Int32)]) rfl (ob_c (by decide) ob_n) ?_
    cases hb1 : hB q 1
    · skip
      refine J.run (sn_X7_isForEver F) 10 [1] (S' := (7, [(0, .ref 500), (1, .int q), (2, .int ((fiT h q 1) + 0)), (3, .int 225), (4, .int 2)], [], [(500, mM z K0), (502, a14 h), (513, .inr (.inl (0, s9))), (514, .inr (.inl (1, m9)))])) (ob := [¬ ((q >>> ((1 : Int32) &&& 31)) &&& 1) = 1]) rfl (ob_c (hB_f hb1) ob_n) ?_
      exact J.cast F2 (by simp only [fiT_2, hb1, ↓reduceIte, ite_self, Bool.false_eq_true, cond_true, cond_false, Bool.true_and, Bool.false_and, Bool.and_true, Bool.and_false, Bool.true_or, Bool.false_or, Bool.or_true, Bool.or_false, Bool.not_true, Bool.not_false, decide_true, decide_false, b2i_t, b2i_f])
    · skip
      refine J.run (sn_X7_isForEver F) 10 [0, 3] (S' := (36, [(0, .ref 500), (1, .int q), (2, .int (fiT h q 1)), (3, .int 15), (4, .int 1)], [.int (h 3), .int 45, .int (fiT h q 1)], [(500, mM z K0), (502, a14 h), (513, .inr (.inl (0, s9))), (514, .inr (.inl (1, m9)))])) (ob := [((q >>> ((1 : Int32) &&& 31)) &&& 1) = 1, ix 3 3 14]) rfl (ob_c (hB_t hb1) (ob_c (ix_of rfl) ob_n)) ?_
      refine J.run (sn_X7_isForEver F) 10 [] (S' := (7, [(0, .ref 500), (1, .int q), (2, .int ((fiT h q 1) + (45 * (h 3)))), (3, .int 225), (4, .int 2)], [], [(500, mM z K0), (502, a14 h), (513, .inr (.inl (0, s9))), (514, .inr (.inl (1, m9)))])) (ob := []) rfl (ob_n) ?_
      exact J.cast F2 (by simp only [fiT_2, hb1, ↓reduceIte, ite_self, Bool.false_eq_true, cond_true, cond_false, Bool.true_and, Bool.false_and, Bool.and_true, Bool.and_false, Bool.true_or, Bool.false_or, Bool.or_true, Bool.or_false, Bool.not_true, Bool.not_false, decide_true, decide_false, b2i_t, b2i_f])
  have F0 : J x 7 (ad, 0, 0) (7, [(0, .ref 500), (1, .int q), (2, .int 0), (3, .int 1), (4, .int 0)], [], [(500, mM z K0), (502, a14 h), (513, .inr (.inl (0, s9))), (514, .inr (.inl (1, m9)))]) := by
    refine J.run (sn_X7_isForEver F) 10 [0] (S' := (21, [(0, .ref 500), (1, .int q), (2, .int 0), (3, .int 1), (4, .int 0)], [.int 1, .int ((q >>> ((0 : Int32) &&& 31)) &&& 1), .int 0], [(500, mM z K0), (502, a14 h), (513, .inr (.inl (0, s9))), (514, .inr (.inl (1, m9)))])) (ob := [¬ 4 ≤ (0 : Int32)]) rfl (ob_c (by decide) ob_n) ?_
    cases hb1 : hB q 0
    · skip
      refine J.run (sn_X7_isForEver F) 10 [1] (S' := (7, [(0, .ref 500), (1, .int q), (2, .int 0), (3, .int 15), (4, .int 1)], [], [(500, mM z K0), (502, a14 h), (513, .inr (.inl (0, s9))), (514, .inr (.inl (1, m9)))])) (ob := [¬ ((q >>> ((0 : Int32) &&& 31)) &&& 1) = 1]) rfl (ob_c (hB_f hb1) ob_n) ?_
      exact J.cast F1 (by simp only [fiT_1, show fiT h q 0 = 0 from rfl, Int32.zero_add, hb1, ↓reduceIte, ite_self, Bool.false_eq_true, cond_true, cond_false, Bool.true_and, Bool.false_and, Bool.and_true, Bool.and_false, Bool.true_or, Bool.false_or, Bool.or_true, Bool.or_false, Bool.not_true, Bool.not_false, decide_true, decide_false, b2i_t, b2i_f])
    · skip
      refine J.run (sn_X7_isForEver F) 10 [0, 2] (S' := (36, [(0, .ref 500), (1, .int q), (2, .int 0), (3, .int 1), (4, .int 0)], [.int (h 2), .int 3, .int 0], [(500, mM z K0), (502, a14 h), (513, .inr (.inl (0, s9))), (514, .inr (.inl (1, m9)))])) (ob := [((q >>> ((0 : Int32) &&& 31)) &&& 1) = 1, ix 2 2 14]) rfl (ob_c (hB_t hb1) (ob_c (ix_of rfl) ob_n)) ?_
      refine J.run (sn_X7_isForEver F) 10 [] (S' := (7, [(0, .ref 500), (1, .int q), (2, .int (0 + (3 * (h 2)))), (3, .int 15), (4, .int 1)], [], [(500, mM z K0), (502, a14 h), (513, .inr (.inl (0, s9))), (514, .inr (.inl (1, m9)))])) (ob := []) rfl (ob_n) ?_
      exact J.cast F1 (by simp only [fiT_1, show fiT h q 0 = 0 from rfl, Int32.zero_add, hb1, ↓reduceIte, ite_self, Bool.false_eq_true, cond_true, cond_false, Bool.true_and, Bool.false_and, Bool.and_true, Bool.and_false, Bool.true_or, Bool.false_or, Bool.or_true, Bool.or_false, Bool.not_true, Bool.not_false, decide_true, decide_false, b2i_t, b2i_f])
  refine J.run (sn_X7_isForEver F) 6 [] (S' := (7, [(0, .ref 500), (1, .int q), (2, .int 0), (3, .int 1), (4, .int 0)], [], [(500, mM z K0), (502, a14 h), (513, .inr (.inl (0, s9))), (514, .inr (.inl (1, m9)))])) (ob := []) rfl (ob_n) ?_
  exact F0
