def wt (c : Nat) : Nat := if c = 0 then 0 else 12 / (1 + c)
def chk (c : Nat → Nat) (L : List (Nat × List Nat)) : Bool := decide (0 < L.length) && (List.range L.length).all (fun t => decide ((L.getD t (0, [])).1 < 4) && (decide (0 < c (L.getD t (0, [])).1) && (decide ((L.getD t (0, [])).2.getD (L.getD t (0, [])).1 1 = 0) && (List.range 4).all (fun m => if m = (L.getD t (0, [])).1 then decide (c m ≤ (L.getD ((t + 1) % L.length) (0, [])).2.getD m 0) else if c m = 0 then decide (3 ≤ (L.getD ((t + 1) % L.length) (0, [])).2.getD m 0) else decide ((L.getD t (0, [])).2.getD m 0 ≤ (L.getD ((t + 1) % L.length) (0, [])).2.getD m 0 + 1)))))
def cf (c0 c1 c2 c3 : Nat) : Nat → Nat := fun m => if m = 0 then c0 else if m = 1 then c1 else if m = 2 then c2 else c3
def cands : List (List (Nat × List Nat)) := [[(0, [0, 1, 99, 99]), (1, [1, 0, 99, 99])],
  [(0, [0, 99, 1, 99]), (2, [1, 99, 0, 99])],
  [(0, [0, 99, 99, 1]), (3, [1, 99, 99, 0])],
  [(1, [99, 0, 1, 99]), (2, [99, 1, 0, 99])],
  [(1, [99, 0, 99, 1]), (3, [99, 1, 99, 0])],
  [(2, [99, 99, 0, 1]), (3, [99, 99, 1, 0])],
  [(0, [0, 1, 2, 99]), (1, [2, 0, 1, 99]), (2, [1, 2, 0, 99])],
  [(0, [0, 1, 99, 2]), (1, [2, 0, 99, 1]), (3, [1, 2, 99, 0])],
  [(0, [0, 99, 1, 2]), (2, [2, 99, 0, 1]), (3, [1, 99, 2, 0])],
  [(1, [99, 0, 1, 2]), (2, [99, 2, 0, 1]), (3, [99, 1, 2, 0])],
  [(0, [0, 1, 2, 3]), (1, [3, 0, 1, 2]), (2, [2, 3, 0, 1]), (3, [1, 2, 3, 0])],
  [(0, [0, 1, 3, 99]), (1, [1, 0, 2, 99]), (0, [0, 3, 1, 99]), (2, [1, 2, 0, 99])],
  [(0, [0, 1, 99, 3]), (1, [1, 0, 99, 2]), (0, [0, 3, 99, 1]), (3, [1, 2, 99, 0])],
  [(0, [0, 99, 1, 3]), (2, [1, 99, 0, 2]), (0, [0, 99, 3, 1]), (3, [1, 99, 2, 0])],
  [(1, [1, 0, 3, 99]), (0, [0, 1, 2, 99]), (1, [3, 0, 1, 99]), (2, [2, 1, 0, 99])],
  [(1, [1, 0, 99, 3]), (0, [0, 1, 99, 2]), (1, [3, 0, 99, 1]), (3, [2, 1, 99, 0])],
  [(1, [99, 0, 1, 3]), (2, [99, 1, 0, 2]), (1, [99, 0, 3, 1]), (3, [99, 1, 2, 0])],
  [(2, [1, 3, 0, 99]), (0, [0, 2, 1, 99]), (2, [3, 1, 0, 99]), (1, [2, 0, 1, 99])],
  [(2, [1, 99, 0, 3]), (0, [0, 99, 1, 2]), (2, [3, 99, 0, 1]), (3, [2, 99, 1, 0])],
  [(2, [99, 1, 0, 3]), (1, [99, 0, 1, 2]), (2, [99, 3, 0, 1]), (3, [99, 2, 1, 0])],
  [(3, [1, 3, 99, 0]), (0, [0, 2, 99, 1]), (3, [3, 1, 99, 0]), (1, [2, 0, 99, 1])],
  [(3, [1, 99, 3, 0]), (0, [0, 99, 2, 1]), (3, [3, 99, 1, 0]), (2, [2, 99, 0, 1])],
  [(3, [99, 1, 3, 0]), (1, [99, 0, 2, 1]), (3, [99, 3, 1, 0]), (2, [99, 2, 0, 1])]]
set_option maxRecDepth 100000 in
theorem sch_all : ∀ c0, c0 < 4 → ∀ c1, c1 < 4 → ∀ c2, c2 < 4 → ∀ c3, c3 < 4 → 12 ≤ wt c0 + wt c1 + wt c2 + wt c3 → cands.any (chk (cf c0 c1 c2 c3)) = true := by decide +kernel
def rt (R d : Nat) : Nat := if 0 < d / 3 then 0 else R - d % 3
theorem rt_le (R d : Nat) : rt R d ≤ R := by
  unfold rt
  split <;> omega
theorem rt_other {B R : Nat → Nat} {bs : Nat → Bool} {w m d : Nat} (hm : ¬ m = w) (hb : bs m = true) (hB : 1 ≤ B m) (hv : d % 3 + 1 ≤ R m) (hR : R m ≤ 3) : rt (R m) (nd B R bs w m d) ≤ rt (R m) d - 1 := by
  unfold nd
  rw [if_neg hm, hb]
  show rt (R m) (if B m ≤ d / 3 then d else if d % 3 + 1 = R m then 3 * (d / 3 + 1) else d + 1) ≤ rt (R m) d - 1
  unfold rt
  by_cases e1 : B m ≤ d / 3
  · rw [if_pos e1, if_pos (by omega)]
    omega
  · rw [if_neg e1]
    by_cases e2 : d % 3 + 1 = R m
    · rw [if_pos e2, if_pos (by omega)]
      omega
    · rw [if_neg e2]
      by_cases e3 : 0 < d / 3
      · rw [if_pos (by omega)]
        omega
      · rw [if_neg (by omega), if_neg e3]
        omega
/-- the house's seats, all that the two ways of counting need -/
def Hn (B R : Nat → Nat) (bs : Nat → Bool) (n : Nat) : Prop := ∀ m, m < 4 → B m ≤ 4 ∧ R m ≤ 3 ∧ (bs m = true → 1 ≤ R m ∧ 1 ≤ B m ∧ m < n)
theorem gst_dg {h : Nat → Int32} {q : Int32} {B R : Nat → Nat} {bs : Nat → Bool} (H : Hs h q B R bs) {w s y : Nat} (hv : Vs B R bs s) (hg : gst B R bs w s = some y) : ¬ dg s w / 3 = 0 ∧ ∀ m, m < 4 → dg y m = nd B R bs w m (dg s m) := by
  have K : ∀ m, m < 4 → nd B R bs w m (dg s m) < 15 := fun m hm => (nd_ok (H m hm).2.1 (H m hm).2.2.2.1 (H m hm).2.2.2.2.2 (hv.2 m hm).1 (hv.2 m hm).2).1
  unfold gst at hg
  by_cases e : dg s w / 3 = 0
  · rw [if_pos e] at hg; cases hg
  · rw [if_neg e] at hg
    have hy := Option.some.inj hg
    have a1 := K 0 (by decide)
    have b1 := K 1 (by decide)
    have c1 := K 2 (by decide)
    have d1 := K 3 (by decide)
    refine ⟨e, fun m hm => ?_⟩
    match m, hm with
    | 0, _ => rw [dg0]; generalize nd B R bs w 0 (dg s 0) = x0 at *; generalize nd B R bs w 1 (dg s 1) = x1 at *; generalize nd B R bs w 2 (dg s 2) = x2 at *; generalize nd B R bs w 3 (dg s 3) = x3 at *; omega
    | 1, _ => rw [dg1 y]; generalize nd B R bs w 0 (dg s 0) = x0 at *; generalize nd B R bs w 1 (dg s 1) = x1 at *; generalize nd B R bs w 2 (dg s 2) = x2 at *; generalize nd B R bs w 3 (dg s 3) = x3 at *; omega
    | 2, _ => rw [dg2 y]; generalize nd B R bs w 0 (dg s 0) = x0 at *; generalize nd B R bs w 1 (dg s 1) = x1 at *; generalize nd B R bs w 2 (dg s 2) = x2 at *; generalize nd B R bs w 3 (dg s 3) = x3 at *; omega
    | 3, _ => rw [dg3 y]; generalize nd B R bs w 0 (dg s 0) = x0 at *; generalize nd B R bs w 1 (dg s 1) = x1 at *; generalize nd B R bs w 2 (dg s 2) = x2 at *; generalize nd B R bs w 3 (dg s 3) = x3 at *; omega
theorem dg_fi {B : Nat → Nat} {bs : Nat → Bool} (hB : ∀ m, m < 4 → B m ≤ 4) {m : Nat} (hm : m < 4) : dg (fiN B bs) m = bif bs m then 3 * B m else 0 := by
  have b0 := hB 0 (by decide)
  have b1 := hB 1 (by decide)
  have b2 := hB 2 (by decide)
  have b3 := hB 3 (by decide)
  have K : ∀ (b : Bool) (x : Nat), x ≤ 4 → ∃ d, d ≤ 12 ∧ (bif b then 3 * x else 0) = d ∧ (bif b then 45 * x else 0) = 15 * d ∧ (bif b then 675 * x else 0) = 225 * d ∧ (bif b then 10125 * x else 0) = 3375 * d := by
    intro b x hx
    cases b
    · exact ⟨0, by decide, rfl, rfl, rfl, rfl⟩
    · exact ⟨3 * x, by omega, rfl, by show 45 * x = _; omega, by show 675 * x = _; omega, by show 10125 * x = _; omega⟩
  obtain ⟨d0, k0, e0, -, -, -⟩ := K (bs 0) (B 0) b0
  obtain ⟨d1, k1, f1, e1, -, -⟩ := K (bs 1) (B 1) b1
  obtain ⟨d2, k2, f2, -, e2, -⟩ := K (bs 2) (B 2) b2
  obtain ⟨d3, k3, f3, -, -, e3⟩ := K (bs 3) (B 3) b3
  have ef : fiN B bs = d0 + 15 * d1 + 225 * d2 + 3375 * d3 := by unfold fiN; rw [e0, e1, e2, e3]
  rw [ef]
  match m, hm with
  | 0, _ => rw [dg0, e0]; omega
  | 1, _ => rw [dg1, f1]; omega
  | 2, _ => rw [dg2, f2]; omega
  | 3, _ => rw [dg3, f3]; omega
/-- a schedule that keeps its terms goes on for ever -/
theorem Lv_sched {h : Nat → Int32} {q : Int32} {B R : Nat → Nat} {bs : Nat → Bool} {n : Nat} (H : Hs h q B R bs) (G : Hn B R bs n) {c : Nat → Nat} (hc : ∀ m, m < 4 → c m = bif bs m then R m else 0) {L : List (Nat × List Nat)} (hL : chk c L = true) : Lv B R bs n (fiN B bs) := by
  obtain ⟨h1, h2⟩ := Bool.and_eq_true_iff.mp hL
  have hp : 0 < L.length := of_decide_eq_true h1
  rw [List.all_eq_true] at h2
  have T : ∀ t, t < L.length → (L.getD t (0, [])).1 < 4 ∧ 0 < c (L.getD t (0, [])).1 ∧ (L.getD t (0, [])).2.getD (L.getD t (0, [])).1 1 = 0 ∧ ∀ m, m < 4 → if m = (L.getD t (0, [])).1 then c m ≤ (L.getD ((t + 1) % L.length) (0, [])).2.getD m 0 else if c m = 0 then 3 ≤ (L.getD ((t + 1) % L.length) (0, [])).2.getD m 0 else (L.getD t (0, [])).2.getD m 0 ≤ (L.getD ((t + 1) % L.length) (0, [])).2.getD m 0 + 1 := by
    intro t ht
    have := h2 t (List.mem_range.mpr ht)
    obtain ⟨a, b⟩ := Bool.and_eq_true_iff.mp this
    obtain ⟨b, d⟩ := Bool.and_eq_true_iff.mp b
    obtain ⟨d, e⟩ := Bool.and_eq_true_iff.mp d
    rw [List.all_eq_true] at e
    refine ⟨of_decide_eq_true a, of_decide_eq_true b, of_decide_eq_true d, fun m hm => ?_⟩
    have := e m (List.mem_range.mpr hm)
    by_cases e1 : m = (L.getD t (0, [])).1
    · rw [if_pos e1] at this ⊢
      exact of_decide_eq_true this
    · rw [if_neg e1] at this ⊢
      by_cases e2 : c m = 0
      · rw [if_pos e2] at this ⊢
        exact of_decide_eq_true this
      · rw [if_neg e2] at this ⊢
        exact of_decide_eq_true this
  have Z : ∀ t, t < L.length → ∀ m, m < 4 → c m = 0 → 3 ≤ (L.getD t (0, [])).2.getD m 0 := by
    intro t ht m hm h0
    -- it is the next of the one ahead
    obtain ⟨t', ht', e⟩ : ∃ t', t' < L.length ∧ (t' + 1) % L.length = t := by
      by_cases e : t = 0
      · exact ⟨L.length - 1, by omega, by rw [show L.length - 1 + 1 = L.length by omega, Nat.mod_self, e]⟩
      · exact ⟨t - 1, by omega, by rw [show t - 1 + 1 = t by omega]; exact Nat.mod_eq_of_lt ht⟩
    obtain ⟨-, a, -, b⟩ := T t' ht'
    have := b m hm
    rw [e] at this
    by_cases e1 : m = (L.getD t' (0, [])).1
    · rw [← e1] at a; omega
    · rw [if_neg e1, if_pos h0] at this
      exact this
  have C0 : ∀ m, m < 4 → bs m = false → c m = 0 := fun m hm hb => by rw [hc m hm, hb]; rfl
  have C1 : ∀ m, m < 4 → bs m = true → c m = R m := fun m hm hb => by rw [hc m hm, hb]; rfl
  refine ⟨fun x => Vs B R bs x ∧ ∃ t, t < L.length ∧ ∀ m, m < 4 → rt (R m) (dg x m) ≤ (L.getD t (0, [])).2.getD m 0, ⟨fiN_ok H, 0, hp, fun m hm => ?_⟩, ?_⟩
  · rw [dg_fi (fun m hm => (G m hm).1) hm]
    cases hb : bs m with
    | true =>
      have := ((G m hm).2.2 hb).2.1
      show rt (R m) (3 * B m) ≤ _
      unfold rt
      rw [if_pos (by omega)]
      exact Nat.zero_le _
    | false =>
      have := Z 0 hp m hm (C0 m hm hb)
      have h3 := (G m hm).2.1
      have h4 := rt_le (R m) 0
      show rt (R m) 0 ≤ _
      omega
  · rintro x ⟨hv, t, ht, hr⟩
    obtain ⟨hw4, hcw, hw0, hN⟩ := T t ht
    generalize hw : (L.getD t (0, [])).1 = w at *
    have hbw : bs w = true := by
      cases hb : bs w with
      | true => rfl
      | false => rw [C0 w hw4 hb] at hcw; exact absurd hcw (Nat.lt_irrefl 0)
    have hrw := hr w hw4
    have h00 : (L.getD t (0, [])).2.getD w 0 = 0 := by
      rw [List.getD_eq_getElem?_getD] at hw0 ⊢
      cases hh : (L.getD t (0, [])).2[w]? with
      | none => rw [hh] at hw0; exact absurd hw0 (by decide)
      | some v => rw [hh] at hw0; exact hw0
    rw [h00] at hrw
    have hair : ¬ dg x w / 3 = 0 := by
      intro e
      have hv2 := (hv.2 w hw4).2 hbw
      unfold rt at hrw
      rw [if_neg (by omega)] at hrw
      omega
    obtain ⟨y, hy⟩ : ∃ y, gst B R bs w x = some y := by
      unfold gst
      rw [if_neg hair]
      exact ⟨_, rfl⟩
    obtain ⟨-, hdy⟩ := gst_dg H hv hy
    refine ⟨w, ((G w hw4).2.2 hbw).2.2, hbw, y, hy, gst_ok H hv hy, (t + 1) % L.length, Nat.mod_lt _ hp, fun m hm => ?_⟩
    have hNm := hN m hm
    rw [hdy m hm]
    by_cases e : m = w
    · subst e
      rw [if_pos rfl, C1 m hm hbw] at hNm
      exact Nat.le_trans (rt_le _ _) hNm
    · rw [if_neg e] at hNm
      cases hb : bs m with
      | false =>
        have h9 := Z ((t + 1) % L.length) (Nat.mod_lt _ hp) m hm (C0 m hm hb)
        exact Nat.le_trans (Nat.le_trans (rt_le _ _) (G m hm).2.1) h9
      | true =>
        obtain ⟨g1, g2, -⟩ := (G m hm).2.2 hb
        rw [if_neg (by rw [C1 m hm hb]; omega)] at hNm
        have := rt_other (B := B) (R := R) (bs := bs) (w := w) (d := dg x m) e hb g2 ((hv.2 m hm).2 hb) (G m hm).2.1
        have := hr m hm
        omega
/-- the weights that fall -/
def pt (R : Nat → Nat) (bs : Nat → Bool) (m d : Nat) : Nat := bif bs m then wt (R m) * (R m * (d / 3) + d % 3) else 0
theorem pt_other {B R : Nat → Nat} {bs : Nat → Bool} {n w m d : Nat} (G : Hn B R bs n) (hm : m < 4) (e : ¬ m = w) (hv : bs m = true → d % 3 + 1 ≤ R m) : pt R bs m (nd B R bs w m d) ≤ pt R bs m d + (bif bs m then wt (R m) else 0) := by
  unfold pt nd
  rw [if_neg e]
  cases hb : bs m with
  | false => exact Nat.le_refl _
  | true =>
    obtain ⟨g1, g2, -⟩ := (G m hm).2.2 hb
    have g3 := (G m hm).2.1
    have h1 := hv hb
    show wt (R m) * (R m * ((if B m ≤ d / 3 then d else if d % 3 + 1 = R m then 3 * (d / 3 + 1) else d + 1) / 3) + (if B m ≤ d / 3 then d else if d % 3 + 1 = R m then 3 * (d / 3 + 1) else d + 1) % 3) ≤ wt (R m) * (R m * (d / 3) + d % 3) + wt (R m)
    have key : R m * ((if B m ≤ d / 3 then d else if d % 3 + 1 = R m then 3 * (d / 3 + 1) else d + 1) / 3) + (if B m ≤ d / 3 then d else if d % 3 + 1 = R m then 3 * (d / 3 + 1) else d + 1) % 3 ≤ R m * (d / 3) + d % 3 + 1 := by
      have hR : R m = 1 ∨ R m = 2 ∨ R m = 3 := by omega
      by_cases e1 : B m ≤ d / 3
      · rw [if_pos e1]; omega
      · rw [if_neg e1]
        by_cases e2 : d % 3 + 1 = R m
        · rw [if_pos e2]
          rcases hR with r | r | r <;> rw [r] at e2 ⊢ <;> omega
        · rw [if_neg e2]
          rcases hR with r | r | r <;> rw [r] at e2 h1 ⊢ <;> omega
    exact Nat.le_trans (Nat.mul_le_mul_left (wt (R m)) key) (Nat.le_of_eq (Nat.mul_succ _ _))
theorem pt_self {B R : Nat → Nat} {bs : Nat → Bool} {n w d : Nat} (G : Hn B R bs n) (hw : w < 4) (hb : bs w = true) (hd : ¬ d / 3 = 0) : pt R bs w (nd B R bs w w d) + 12 ≤ pt R bs w d + (bif bs w then wt (R w) else 0) := by
  unfold pt nd
  rw [if_pos rfl, hb]
  obtain ⟨g1, g2, -⟩ := (G w hw).2.2 hb
  have g3 := (G w hw).2.1
  show wt (R w) * (R w * (3 * (d / 3 - 1) / 3) + 3 * (d / 3 - 1) % 3) + 12 ≤ wt (R w) * (R w * (d / 3) + d % 3) + wt (R w)
  have hR : R w = 1 ∨ R w = 2 ∨ R w = 3 := by omega
  rcases hR with r | r | r <;> rw [r]
  · show 6 * _ + 12 ≤ 6 * _ + 6; omega
  · show 4 * _ + 12 ≤ 4 * _ + 4; omega
  · show 3 * _ + 12 ≤ 3 * _ + 3; omega
def shN (R : Nat → Nat) (bs : Nat → Bool) : Nat := (bif bs 0 then wt (R 0) else 0) + (bif bs 1 then wt (R 1) else 0) + (bif bs 2 then wt (R 2) else 0) + (bif bs 3 then wt (R 3) else 0)
theorem Lv_no {h : Nat → Int32} {q : Int32} {B R : Nat → Nat} {bs : Nat → Bool} {n : Nat} (H : Hs h q B R bs) (G : Hn B R bs n) (hs : shN R bs < 12) (hn : n ≤ 4) : ∀ (N x : Nat), Vs B R bs x → pt R bs 0 (dg x 0) + pt R bs 1 (dg x 1) + pt R bs 2 (dg x 2) + pt R bs 3 (dg x 3) ≤ N → ¬ Lv B R bs n x := by
  intro N
  induction N with
  | zero =>
    intro x hv hN hl
    obtain ⟨w, a, b, y, c, d⟩ := Lv_next hl
    obtain ⟨e, hd⟩ := gst_dg H hv c
    have hw : w < 4 := by omega
    have k := pt_self (B := B) (R := R) (bs := bs) G hw b e
    have z : pt R bs w (dg x w) = 0 := by
      match w, hw with
      | 0, _ => omega
      | 1, _ => omega
      | 2, _ => omega
      | 3, _ => omega
    have : (bif bs w then wt (R w) else 0) ≤ shN R bs := by
      unfold shN
      match w, hw with
      | 0, _ => omega
      | 1, _ => omega
      | 2, _ => omega
      | 3, _ => omega
    omega
  | succ N ih =>
    intro x hv hN hl
    obtain ⟨w, a, b, y, c, d⟩ := Lv_next hl
    obtain ⟨e, hd⟩ := gst_dg H hv c
    have hw : w < 4 := by omega
    refine ih y (gst_ok H hv c) ?_ d
    have k := pt_self (B := B) (R := R) (bs := bs) G hw b e
    have o : ∀ m, m < 4 → ¬ m = w → _ := fun m hm em => pt_other (B := B) (R := R) (bs := bs) (w := w) (d := dg x m) G hm em (hv.2 m hm).2
    rw [hd 0 (by decide), hd 1 (by decide), hd 2 (by decide), hd 3 (by decide)]
    unfold shN at hs
    match w, hw with
    | 0, _ =>
      have o1 := o 1 (by decide) (by decide)
      have o2 := o 2 (by decide) (by decide)
      have o3 := o 3 (by decide) (by decide)
      omega
    | 1, _ =>
      have o1 := o 0 (by decide) (by decide)
      have o2 := o 2 (by decide) (by decide)
      have o3 := o 3 (by decide) (by decide)
      omega
    | 2, _ =>
      have o1 := o 0 (by decide) (by decide)
      have o2 := o 1 (by decide) (by decide)
      have o3 := o 3 (by decide) (by decide)
      omega
    | 3, _ =>
      have o1 := o 0 (by decide) (by decide)
      have o2 := o 1 (by decide) (by decide)
      have o3 := o 2 (by decide) (by decide)
      omega
/-- FOR EVER: an endless path from full AIR, or shares of a whole -/
theorem Lv_iff {h : Nat → Int32} {q : Int32} {B R : Nat → Nat} {bs : Nat → Bool} {n : Nat} (H : Hs h q B R bs) (G : Hn B R bs n) (hn : n ≤ 4) : Lv B R bs n (fiN B bs) ↔ 12 ≤ shN R bs := by
  constructor
  · intro hl
    by_cases e : 12 ≤ shN R bs
    · exact e
    · exact absurd hl (Lv_no H G (by omega) hn _ _ (fiN_ok H) (Nat.le_refl _))
  · intro hs
    have hcl : ∀ m, m < 4 → (bif bs m then R m else 0) < 4 := fun m hm => by
      have := (G m hm).2.1
      cases bs m
      · exact (by decide : 0 < 4)
      · show R m < 4; omega
    have hw : ∀ m, wt (bif bs m then R m else 0) = bif bs m then wt (R m) else 0 := fun m => by cases bs m <;> rfl
    have := sch_all _ (hcl 0 (by decide)) _ (hcl 1 (by decide)) _ (hcl 2 (by decide)) _ (hcl 3 (by decide)) (by rw [hw, hw, hw, hw]; exact hs)
    obtain ⟨L, -, hL⟩ := List.any_eq_true.mp this
    refine Lv_sched H G (fun m hm => ?_) hL
    match m, hm with
    | 0, _ => rfl
    | 1, _ => rfl
    | 2, _ => rfl
    | 3, _ => rfl
theorem shS_N {h : Nat → Int32} {q : Int32} {B R : Nat → Nat} {bs : Nat → Bool} {n : Nat} (H : Hs h q B R bs) (G : Hn B R bs n) : shS h q 4 = nI (shN R bs) := by
  have K : ∀ m, m < 4 → ∀ a : Nat, (bif hB q (nI m) then (if h (6 + m) ≤ 0 then nI a else nI a + 12 / (1 + h (6 + m))) else nI a) = nI (a + (bif bs m then wt (R m) else 0)) := by
    intro m hm a
    obtain ⟨-, -, h3, h4, h5, h6⟩ := H m hm
    rw [← h5]
    cases hb : bs m with
    | false => rfl
    | true =>
      have h1 := h6 hb
      show (if h (6 + m) ≤ 0 then nI a else nI a + 12 / (1 + h (6 + m))) = nI (a + wt (R m))
      rw [h3, if_neg (show ¬ nI (R m) ≤ 0 from n_nle (b := 0) (by omega) (by omega) (by omega)), show (1 : Int32) + nI (R m) = nI (1 + R m) from nI_pl 1 (R m), show (12 : Int32) / nI (1 + R m) = nI (12 / (1 + R m)) from nI_div (a := 12) (by decide) (by omega), nI_pl]
      unfold wt
      rw [if_neg (by omega)]
  show (bif hB q (nI 3) then (if h (6 + 3) ≤ 0 then shS h q 3 else shS h q 3 + 12 / (1 + h (6 + 3))) else shS h q 3) = _
  have e0 : shS h q 0 = nI 0 := rfl
  have e1 : shS h q 1 = nI (0 + (bif bs 0 then wt (R 0) else 0)) := K 0 (by decide) 0
  have e2 : shS h q 2 = nI (0 + (bif bs 0 then wt (R 0) else 0) + (bif bs 1 then wt (R 1) else 0)) := by
    show (bif hB q (nI 1) then (if h (6 + 1) ≤ 0 then shS h q 1 else shS h q 1 + 12 / (1 + h (6 + 1))) else shS h q 1) = _
    rw [e1]; exact K 1 (by decide) _
  have e3 : shS h q 3 = nI (0 + (bif bs 0 then wt (R 0) else 0) + (bif bs 1 then wt (R 1) else 0) + (bif bs 2 then wt (R 2) else 0)) := by
    show (bif hB q (nI 2) then (if h (6 + 2) ≤ 0 then shS h q 2 else shS h q 2 + 12 / (1 + h (6 + 2))) else shS h q 2) = _
    rw [e2]; exact K 2 (by decide) _
  rw [e3, K 3 (by decide), Nat.zero_add]
  rfl
