def dg (s m : Nat) : Nat := s / 15 ^ m % 15
theorem dg0 (s : Nat) : dg s 0 = s % 15 := by unfold dg; rw [Nat.pow_zero, Nat.div_one]
theorem dg1 (s : Nat) : dg s 1 = s / 15 % 15 := rfl
theorem dg2 (s : Nat) : dg s 2 = s / 225 % 15 := rfl
theorem dg3 (s : Nat) : dg s 3 = s / 3375 % 15 := rfl
def nd (B R : Nat → Nat) (bs : Nat → Bool) (w m d : Nat) : Nat := if m = w then 3 * (d / 3 - 1) else bif bs m then (if B m ≤ d / 3 then d else if d % 3 + 1 = R m then 3 * (d / 3 + 1) else d + 1) else d
def gst (B R : Nat → Nat) (bs : Nat → Bool) (w s : Nat) : Option Nat := if dg s w / 3 = 0 then none else some (nd B R bs w 0 (dg s 0) + 15 * nd B R bs w 1 (dg s 1) + 225 * nd B R bs w 2 (dg s 2) + 3375 * nd B R bs w 3 (dg s 3))
def oI (o : Option Nat) : Int32 := match o with
  | none => -1
  | some y => nI y
/-- the house's seats as numbers, the SET's bits -/
def Hs (h : Nat → Int32) (q : Int32) (B R : Nat → Nat) (bs : Nat → Bool) : Prop := ∀ m, m < 4 → h (2 + m) = nI (B m) ∧ B m ≤ 4 ∧ h (6 + m) = nI (R m) ∧ R m ≤ 3 ∧ bs m = hB q (nI m) ∧ (bs m = true → 1 ≤ R m)
def Vs (B R : Nat → Nat) (bs : Nat → Bool) (s : Nat) : Prop := s < 50625 ∧ ∀ m, m < 4 → dg s m / 3 ≤ 4 ∧ (bs m = true → dg s m % 3 + 1 ≤ R m)
theorem nI_div {a b : Nat} (ha : a < 2 ^ 31) (hb : b < 2 ^ 31) : nI a / nI b = nI (a / b) := by
  apply Int32.toInt_inj.mp
  rw [Int32.toInt_div, nI_toInt ha, nI_toInt hb, nI_toInt (Nat.lt_of_le_of_lt (Nat.div_le_self a b) ha)]
  rw [Int.tdiv_eq_ediv_of_nonneg (by omega)]
  have h1 : ((a : Int) / (b : Int)) = ((a / b : Nat) : Int) := rfl
  have h2 : a / b ≤ a := Nat.div_le_self a b
  rw [h1]
  clear h1
  generalize a / b = c at *
  rw [Int.bmod_eq_of_le] <;> omega
theorem nI_mul (a b : Nat) : nI a * nI b = nI (a * b) := by
  show Int32.ofNat a * Int32.ofNat b = Int32.ofNat (a * b)
  rw [← Int32.ofNat_mul]
theorem gV_N {s : Nat} (hs : s < 2 ^ 31) (m : Nat) : gV (nI s) m = nI (s / 15 ^ m) := by
  induction m with
  | zero => show nI s = nI (s / 15 ^ 0); rw [Nat.pow_zero, Nat.div_one]
  | succ m ih =>
    have h1 : s / 15 ^ m < 2 ^ 31 := Nat.lt_of_le_of_lt (Nat.div_le_self _ _) hs
    rw [gV_s, ih, show (15 : Int32) = nI 15 from rfl, nI_div h1 (by decide), Nat.div_div_eq_div_mul, Nat.pow_succ]
theorem gA_N {s : Nat} (hs : s < 2 ^ 31) (m : Nat) : gA (nI s) m = nI (dg s m / 3) := by
  unfold gA
  rw [gV_N hs m]
  have h1 : s / 15 ^ m < 2 ^ 31 := Nat.lt_of_le_of_lt (Nat.div_le_self _ _) hs
  unfold dg
  generalize s / 15 ^ m = v at *
  rw [show (15 : Int32) = nI 15 from rfl, nI_div h1 (by decide), nI_mul, nI_sub (by omega), show (3 : Int32) = nI 3 from rfl, nI_div (by omega) (by decide), show v - v / 15 * 15 = v % 15 by omega]
theorem gE_N {s : Nat} (hs : s < 2 ^ 31) (m : Nat) : gE (nI s) m = nI (dg s m % 3) := by
  unfold gE
  rw [gV_N hs m]
  have h1 : s / 15 ^ m < 2 ^ 31 := Nat.lt_of_le_of_lt (Nat.div_le_self _ _) hs
  unfold dg
  generalize s / 15 ^ m = v at *
  rw [show (3 : Int32) = nI 3 from rfl, nI_div h1 (by decide), nI_mul, nI_sub (by omega), show v - v / 3 * 3 = v % 15 % 3 by omega]
theorem nI_lei {a b : Nat} (ha : a < 2 ^ 31) (hb : b < 2 ^ 31) : nI a ≤ nI b ↔ a ≤ b := by
  constructor
  · intro h
    by_cases q : a ≤ b
    · exact q
    · exact absurd h (n_nle ha hb (by omega))
  · exact n_le ha hb
theorem gD_N {h : Nat → Int32} {q : Int32} {B R : Nat → Nat} {bs : Nat → Bool} (H : Hs h q B R bs) {w s : Nat} (hs : s < 2 ^ 31) (hw : ¬ dg s w / 3 = 0) {m : Nat} (hm : m < 4) : gD h q w m (nI s) = nI (nd B R bs w m (dg s m)) := by
  obtain ⟨h1, h2, h3, h4, h5, h6⟩ := H m hm
  have hd : dg s m < 15 := Nat.mod_lt _ (by decide)
  unfold gD nd
  rw [gA_N hs m, gE_N hs m, ← h5, h1, h3]
  by_cases e : m = w
  · subst e
    rw [show Nat.beq m m = true from Nat.beq_refl m, if_pos rfl]
    show 3 * (nI (dg s m / 3) + -1) + 0 = nI (3 * (dg s m / 3 - 1))
    rw [Int32.add_zero, show (-1 : Int32) = -(nI 1) from rfl, ← Int32.sub_eq_add_neg, nI_sub (by omega), show (3 : Int32) = nI 3 from rfl, nI_mul]
  · have hb : Nat.beq m w = false := by
      cases hh : Nat.beq m w with
      | false => rfl
      | true => exact absurd (Nat.eq_of_beq_eq_true hh) e
    rw [hb, if_neg e]
    cases bs m with
    | false =>
      show 3 * nI (dg s m / 3) + nI (dg s m % 3) = nI (dg s m)
      rw [show (3 : Int32) = nI 3 from rfl, nI_mul, nI_pl, show 3 * (dg s m / 3) + dg s m % 3 = dg s m by omega]
    | true =>
      show (if nI (B m) ≤ nI (dg s m / 3) then 3 * nI (dg s m / 3) + nI (dg s m % 3) else if nI (dg s m % 3) + 1 = nI (R m) then 3 * (nI (dg s m / 3) + 1) + 0 else 3 * (nI (dg s m / 3) + 0) + (nI (dg s m % 3) + 1)) = nI (if B m ≤ dg s m / 3 then dg s m else if dg s m % 3 + 1 = R m then 3 * (dg s m / 3 + 1) else dg s m + 1)
      by_cases e1 : B m ≤ dg s m / 3
      · rw [if_pos ((nI_lei (by omega) (by omega)).mpr e1), if_pos e1, show (3 : Int32) = nI 3 from rfl, nI_mul, nI_pl, show 3 * (dg s m / 3) + dg s m % 3 = dg s m by omega]
      · rw [if_neg (fun z => e1 ((nI_lei (by omega) (by omega)).mp z)), if_neg e1, nI_1, nI_1]
        by_cases e2 : dg s m % 3 + 1 = R m
        · rw [if_pos (by rw [e2]), if_pos e2, Int32.add_zero, show (3 : Int32) = nI 3 from rfl, nI_mul]
        · rw [if_neg (n_ne (by omega) (by omega) e2), if_neg e2, Int32.add_zero, show (3 : Int32) = nI 3 from rfl, nI_mul, nI_pl, show 3 * (dg s m / 3) + (dg s m % 3 + 1) = dg s m + 1 by omega]
theorem goN_N {h : Nat → Int32} {q : Int32} {B R : Nat → Nat} {bs : Nat → Bool} (H : Hs h q B R bs) {w s : Nat} (hw4 : w < 4) (hs : s < 2 ^ 31) : goN h q w (nI s) = oI (gst B R bs w s) := by
  unfold goN gst
  rw [gA_N hs w]
  have hd : dg s w < 15 := Nat.mod_lt _ (by decide)
  by_cases e : dg s w / 3 = 0
  · rw [if_pos e, e, if_pos (show nI 0 = 0 from rfl)]
    rfl
  · rw [if_neg e, if_neg (n_eq0 (by omega) (by omega)), goT_4, goT_3, goT_2, goT_1, gD_N H hs e (by decide : 0 < 4), gD_N H hs e (by decide : 1 < 4), gD_N H hs e (by decide : 2 < 4), gD_N H hs e (by decide : 3 < 4)]
    show 0 + nI 1 * nI _ + nI 15 * nI _ + nI 225 * nI _ + nI 3375 * nI _ = nI _
    rw [Int32.zero_add, nI_mul, nI_mul, nI_mul, nI_mul, nI_pl, nI_pl, nI_pl, Nat.one_mul]
theorem nd_ok {B R : Nat → Nat} {bs : Nat → Bool} {w m d : Nat} (hB : B m ≤ 4) (hR : R m ≤ 3) (hR1 : bs m = true → 1 ≤ R m) (hd : d / 3 ≤ 4) (hv : bs m = true → d % 3 + 1 ≤ R m) : nd B R bs w m d < 15 ∧ nd B R bs w m d / 3 ≤ 4 ∧ (bs m = true → nd B R bs w m d % 3 + 1 ≤ R m) := by
  unfold nd
  by_cases e : m = w
  · rw [if_pos e]
    refine ⟨by omega, by omega, fun hb => ?_⟩
    have := hR1 hb
    omega
  · rw [if_neg e]
    cases hb : bs m with
    | false => exact ⟨by show d < 15; omega, hd, fun z => absurd z (by decide)⟩
    | true =>
      have h1 := hv hb
      show (if B m ≤ d / 3 then d else if d % 3 + 1 = R m then 3 * (d / 3 + 1) else d + 1) < 15 ∧ (if B m ≤ d / 3 then d else if d % 3 + 1 = R m then 3 * (d / 3 + 1) else d + 1) / 3 ≤ 4 ∧ (true = true → (if B m ≤ d / 3 then d else if d % 3 + 1 = R m then 3 * (d / 3 + 1) else d + 1) % 3 + 1 ≤ R m)
      by_cases e1 : B m ≤ d / 3
      · rw [if_pos e1]
        exact ⟨by omega, hd, fun _ => h1⟩
      · rw [if_neg e1]
        by_cases e2 : d % 3 + 1 = R m
        · rw [if_pos e2]
          exact ⟨by omega, by omega, fun _ => by omega⟩
        · rw [if_neg e2]
          exact ⟨by omega, by omega, fun _ => by omega⟩
theorem gst_ok {h : Nat → Int32} {q : Int32} {B R : Nat → Nat} {bs : Nat → Bool} (H : Hs h q B R bs) {w s y : Nat} (hv : Vs B R bs s) (hg : gst B R bs w s = some y) : Vs B R bs y := by
  have K : ∀ m, m < 4 → nd B R bs w m (dg s m) < 15 ∧ nd B R bs w m (dg s m) / 3 ≤ 4 ∧ (bs m = true → nd B R bs w m (dg s m) % 3 + 1 ≤ R m) := fun m hm => nd_ok (H m hm).2.1 (H m hm).2.2.2.1 (H m hm).2.2.2.2.2 (hv.2 m hm).1 (hv.2 m hm).2
  unfold gst at hg
  by_cases e : dg s w / 3 = 0
  · rw [if_pos e] at hg; cases hg
  · rw [if_neg e] at hg
    have hy := Option.some.inj hg
    obtain ⟨a1, a2, a3⟩ := K 0 (by decide)
    obtain ⟨b1, b2, b3⟩ := K 1 (by decide)
    obtain ⟨c1, c2, c3⟩ := K 2 (by decide)
    obtain ⟨d1, d2, d3⟩ := K 3 (by decide)
    generalize nd B R bs w 0 (dg s 0) = x0 at *
    generalize nd B R bs w 1 (dg s 1) = x1 at *
    generalize nd B R bs w 2 (dg s 2) = x2 at *
    generalize nd B R bs w 3 (dg s 3) = x3 at *
    have e0 : dg y 0 = x0 := by rw [dg0]; omega
    have e1 : dg y 1 = x1 := by rw [dg1]; omega
    have e2 : dg y 2 = x2 := by rw [dg2]; omega
    have e3 : dg y 3 = x3 := by rw [dg3]; omega
    refine ⟨by omega, fun m hm => ?_⟩
    match m, hm with
    | 0, _ => rw [e0]; exact ⟨a2, a3⟩
    | 1, _ => rw [e1]; exact ⟨b2, b3⟩
    | 2, _ => rw [e2]; exact ⟨c2, c3⟩
    | 3, _ => rw [e3]; exact ⟨d2, d3⟩
def hnM (B R : Nat → Nat) (bs : Nat → Bool) (n : Nat) (mt : List Int32) (s m : Nat) : Bool := decide (m < n) && (bs m && (match gst B R bs m s with
  | none => false
  | some y => decide (gi mt y = 1)))
def hnx (B R : Nat → Nat) (bs : Nat → Bool) (n : Nat) (mt : List Int32) (s : Nat) : Nat → Bool
  | 0 => false
  | m + 1 => hnx B R bs n mt s m || hnM B R bs n mt s m
theorem nI_m1 {y : Nat} (h : y < 2 ^ 31) : ¬ nI y = -1 := by
  intro e
  have := congrArg Int32.toInt e
  rw [nI_toInt h, show (-1 : Int32).toInt = -1 from rfl] at this
  omega
section
variable {B R : Nat → Nat} {bs : Nat → Bool} {n : Nat} {mt : List Int32} {s m : Nat}
theorem hnM_n (h : n ≤ m) : hnM B R bs n mt s m = false := by unfold hnM; rw [decide_eq_false (by omega)]; rfl
theorem hnM_b (h : bs m = false) : hnM B R bs n mt s m = false := by unfold hnM; rw [h]; cases decide (m < n) <;> rfl
theorem hnM_g (h : gst B R bs m s = none) : hnM B R bs n mt s m = false := by unfold hnM; rw [h]; cases decide (m < n) <;> cases bs m <;> rfl
theorem hnM_y {y : Nat} (hn : m < n) (hb : bs m = true) (h : gst B R bs m s = some y) : hnM B R bs n mt s m = decide (gi mt y = 1) := by unfold hnM; rw [h, hb, decide_eq_true hn]; rfl
theorem hnx_f (h : hnx B R bs n mt s m = false) (h2 : hnM B R bs n mt s m = false) : hnx B R bs n mt s (m + 1) = false := by show (_ || _) = false; rw [h, h2]; rfl
theorem hnx_t (h2 : hnM B R bs n mt s m = true) : hnx B R bs n mt s (m + 1) = true := by show (_ || _) = true; rw [h2]; cases hnx B R bs n mt s m <;> rfl
theorem hnx_up (h : hnx B R bs n mt s m = true) (k : Nat) : hnx B R bs n mt s (m + k) = true := by
  induction k with
  | zero => exact h
  | succ k ih => show (hnx B R bs n mt s (m + k) || _) = true; rw [ih]; rfl
theorem hnx_st (h : hnx B R bs n mt s m = false) (hn : n ≤ m) (k : Nat) : hnx B R bs n mt s (m + k) = false := by
  induction k with
  | zero => exact h
  | succ k ih => exact hnx_f ih (hnM_n (show n ≤ m + k by omega))
end
set_option maxHeartbeats 4000000 in
set_option maxRecDepth 100000 in
theorem c_hasN (z h : Nat → Int32) (q : Int32) (B R : Nat → Nat) (bs : Nat → Bool) (H : Hs h q B R bs) (n : Nat) (hn : n ≤ 4) (hn0 : h 0 = nI n) (mt : List Int32) (hmt : mt.length = 50625) (s : Nat) (hv : Vs B R bs s) : Ctr mk_X7_hasNext 2 [.ref 500, .int (nI s), .int q] [(500, mO z), (502, a14 h), (514, .inr (.inl (1, mt)))] (fun r u => r = some (.int (b2i (hnx B R bs n mt s 4))) ∧ u = [(500, mO z), (502, a14 h), (514, .inr (.inl (1, mt)))]) := by
  refine Ctr.of rfl (Nat.le_of_ble_eq_true rfl) ?_
  intro x ad F hJ hR
  have hs31 : s < 2 ^ 31 := Nat.lt_trans hv.1 (by decide)
  have G4 : hnx B R bs n mt s 4 = false → J x 6 (ad, 0, 0) (5, [(0, .ref 500), (1, .int (nI s)), (2, .int q), (3, .int 0), (4, .int 4)], [], [(500, mO z), (502, a14 h), (514, .inr (.inl (1, mt)))]) := by
    intro hp9
    refine J.run (sn_X7_hasNext F) 7 [0, 1] (S' := (74, [(0, .ref 500), (1, .int (nI s)), (2, .int q), (3, .int 0), (4, .int 4)], [.int 0], [(500, mO z), (502, a14 h), (514, .inr (.inl (1, mt)))])) (ob := [ix 0 0 14, (h 0) ≤ 4]) rfl (ob_c (ix_of rfl) (ob_c (by rw [hn0]; exact n_le (b := 4) (by omega) (by omega) hn) ob_n)) ?_
    exact J.iret F hR (Nat.le_refl _) (Nat.le_refl _) rfl rfl (by decide +kernel) ⟨rfl, keq [500, 502, 514] rfl rfl, by rw [hp9]; rfl, rfl⟩
  have G3 : hnx B R bs n mt s 3 = false → J x 6 (ad, 0, 0) (5, [(0, .ref 500), (1, .int (nI s)), (2, .int q), (3, .int 0), (4, .int 3)], [], [(500, mO z), (502, a14 h), (514, .inr (.inl (1, mt)))]) := by
    intro hp9
    by_cases hnm : n ≤ 3
    · have e9 : hnx B R bs n mt s 4 = false := hnx_st (m := 3) hp9 hnm 1
      refine J.run (sn_X7_hasNext F) 7 [0, 1] (S' := (74, [(0, .ref 500), (1, .int (nI s)), (2, .int q), (3, .int 0), (4, .int 3)], [.int 0], [(500, mO z), (502, a14 h), (514, .inr (.inl (1, mt)))])) (ob := [ix 0 0 14, (h 0) ≤ 3]) rfl (ob_c (ix_of rfl) (ob_c (by rw [hn0]; exact n_le (b := 3) (by omega) (by omega) hnm) ob_n)) ?_
      exact J.iret F hR (Nat.le_refl _) (Nat.le_refl _) rfl rfl (by decide +kernel) ⟨rfl, keq [500, 502, 514] rfl rfl, by rw [e9]; rfl, rfl⟩
    · have hbs : bs 3 = hB q 3 := (H 3 (by decide)).2.2.2.2.1
      refine J.run (sn_X7_hasNext F) 10 [0, 0, 0] (S' := (23, [(0, .ref 500), (1, .int (nI s)), (2, .int q), (3, .int 0), (4, .int 3)], [.int 3, .int q], [(500, mO z), (502, a14 h), (514, .inr (.inl (1, mt)))])) (ob := [ix 0 0 14, ¬ (h 0) ≤ 3, (0 : Int32) = 0]) rfl (ob_c (ix_of rfl) (ob_c (by rw [hn0]; exact n_nle (b := 3) (by omega) (by omega) (by omega)) (ob_c (by decide) ob_n))) ?_
      cases hb1 : hB q 3
      · skip
        refine J.run (sn_X7_hasNext F) 10 [1, 1] (S' := (65, [(0, .ref 500), (1, .int (nI s)), (2, .int q), (3, .int 0), (4, .int 3), (5, .int (-1))], [], [(500, mO z), (502, a14 h), (514, .inr (.inl (1, mt)))])) (ob := [¬ ((q >>> ((3 : Int32) &&& 31)) &&& 1) = 1, ((-1) : Int32) = (-1)]) rfl (ob_c (hB_f hb1) (ob_c (by decide) ob_n)) ?_
        refine J.run (sn_X7_hasNext F) 4 [] (S' := (5, [(0, .ref 500), (1, .int (nI s)), (2, .int q), (3, .int 0), (4, .int 4), (5, .int (-1))], [], [(500, mO z), (502, a14 h), (514, .inr (.inl (1, mt)))])) (ob := []) rfl (ob_n) ?_
        refine J.lv (lv' := [(0, .ref 500), (1, .int (nI s)), (2, .int q), (3, .int 0), (4, .int 4)]) [0, 1, 2, 3, 4] rfl ?_
        exact G4 (hnx_f hp9 (hnM_b (hbs.trans hb1)))
      · skip
        refine J.run (sn_X7_hasNext F) 9 [0] (S' := (35, [(0, .ref 500), (1, .int (nI s)), (2, .int q), (3, .int 0), (4, .int 3)], [.int 3, .int q, .int (nI s), .ref 500], [(500, mO z), (502, a14 h), (514, .inr (.inl (1, mt)))])) (ob := [((q >>> ((3 : Int32) &&& 31)) &&& 1) = 1]) rfl (ob_c (hB_t hb1) ob_n) ?_
        refine J.callVK F hJ lk_X7_209 im_X7_goesOn se_X7_goesOn (by decide +kernel) (c_goes3 z h (nI s) q) (fun k => k) (by decide) [] [500, 502] rfl rfl rfl rfl rfl rfl (by decide +kernel) rfl (by decide +kernel) (fun r ws' hk hp => ?_)
        obtain ⟨rfl, rfl⟩ := hp
        show J x 6 (ad, 0, 0) (38, [(0, .ref 500), (1, .int (nI s)), (2, .int q), (3, .int 0), (4, .int 3)], [.int (goN h q 3 (nI s))], [(500, mO z), (502, a14 h), (514, .inr (.inl (1, mt)))])
        rw [goN_N H (w := 3) (by decide) hs31]
        cases hg : gst B R bs 3 s
        · skip
          show J x 6 (ad, 0, 0) (38, [(0, .ref 500), (1, .int (nI s)), (2, .int q), (3, .int 0), (4, .int 3)], [.int (-1)], [(500, mO z), (502, a14 h), (514, .inr (.inl (1, mt)))])
          refine J.run (sn_X7_hasNext F) 9 [1] (S' := (5, [(0, .ref 500), (1, .int (nI s)), (2, .int q), (3, .int 0), (4, .int 4), (5, .int (-1))], [], [(500, mO z), (502, a14 h), (514, .inr (.inl (1, mt)))])) (ob := [((-1) : Int32) = (-1)]) rfl (ob_c (by decide) ob_n) ?_
          refine J.lv (lv' := [(0, .ref 500), (1, .int (nI s)), (2, .int q), (3, .int 0), (4, .int 4)]) [0, 1, 2, 3, 4] rfl ?_
          exact G4 (hnx_f hp9 (hnM_g hg))
        rename_i y
        · skip
          have hvy := gst_ok H hv hg
          have hy31 : y < 2 ^ 31 := Nat.lt_trans hvy.1 (by decide)
          show J x 6 (ad, 0, 0) (38, [(0, .ref 500), (1, .int (nI s)), (2, .int q), (3, .int 0), (4, .int 3)], [.int (nI y)], [(500, mO z), (502, a14 h), (514, .inr (.inl (1, mt)))])
          refine J.run (sn_X7_hasNext F) 10 [0, y] (S' := (58, [(0, .ref 500), (1, .int (nI s)), (2, .int q), (3, .int 0), (4, .int 3), (5, .int (nI y))], [.int 1, .int (gi mt y)], [(500, mO z), (502, a14 h), (514, .inr (.inl (1, mt)))])) (ob := [¬ (nI y) = (-1), ix (nI y) y mt.length]) rfl (ob_c (nI_m1 hy31) (ob_c (ix_len hmt (ix_nI hvy.1 (by decide))) ob_n)) ?_
          by_cases h2 : (gi mt y) = 1
          · skip
            refine J.run (sn_X7_hasNext F) 6 [0] (S' := (5, [(0, .ref 500), (1, .int (nI s)), (2, .int q), (3, .int 1), (4, .int 4), (5, .int (nI y))], [], [(500, mO z), (502, a14 h), (514, .inr (.inl (1, mt)))])) (ob := [(gi mt y) = 1]) rfl (ob_c h2 ob_n) ?_
            by_cases h3 : (h 0) ≤ 4
            · skip
              refine J.run (sn_X7_hasNext F) 7 [0, 1] (S' := (74, [(0, .ref 500), (1, .int (nI s)), (2, .int q), (3, .int 1), (4, .int 4), (5, .int (nI y))], [.int 1], [(500, mO z), (502, a14 h), (514, .inr (.inl (1, mt)))])) (ob := [ix 0 0 14, (h 0) ≤ 4]) rfl (ob_c (ix_of rfl) (ob_c h3 ob_n)) ?_
              exact J.iret F hR (Nat.le_refl _) (Nat.le_refl _) rfl rfl (by decide +kernel) ⟨rfl, keq [500, 502, 514] rfl rfl, by rw [show hnx B R bs n mt s 4 = true from hnx_up (m := 4) (hnx_t ((hnM_y (by omega) (hbs.trans hb1) hg).trans (decide_eq_true h2))) 0]; rfl, rfl⟩
            · skip
              refine J.run (sn_X7_hasNext F) 9 [0, 0, 1] (S' := (74, [(0, .ref 500), (1, .int (nI s)), (2, .int q), (3, .int 1), (4, .int 4), (5, .int (nI y))], [.int 1], [(500, mO z), (502, a14 h), (514, .inr (.inl (1, mt)))])) (ob := [ix 0 0 14, ¬ (h 0) ≤ 4, ¬ (1 : Int32) = 0]) rfl (ob_c (ix_of rfl) (ob_c h3 (ob_c (by decide) ob_n))) ?_
              exact J.iret F hR (Nat.le_refl _) (Nat.le_refl _) rfl rfl (by decide +kernel) ⟨rfl, keq [500, 502, 514] rfl rfl, by rw [show hnx B R bs n mt s 4 = true from hnx_up (m := 4) (hnx_t ((hnM_y (by omega) (hbs.trans hb1) hg).trans (decide_eq_true h2))) 0]; rfl, rfl⟩
          · skip
            refine J.run (sn_X7_hasNext F) 5 [1] (S' := (5, [(0, .ref 500), (1, .int (nI s)), (2, .int q), (3, .int 0), (4, .int 4), (5, .int (nI y))], [], [(500, mO z), (502, a14 h), (514, .inr (.inl (1, mt)))])) (ob := [¬ (gi mt y) = 1]) rfl (ob_c h2 ob_n) ?_
            refine J.lv (lv' := [(0, .ref 500), (1, .int (nI s)), (2, .int q), (3, .int 0), (4, .int 4)]) [0, 1, 2, 3, 4] rfl ?_
            exact G4 (hnx_f hp9 ((hnM_y (by omega) (hbs.trans hb1) hg).trans (decide_eq_false h2)))
  have G2 : hnx B R bs n mt s 2 = false → J x 6 (ad, 0, 0) (5, [(0, .ref 500), (1, .int (nI s)), (2, .int q), (3, .int 0), (4, .int 2)], [], [(500, mO z), (502, a14 h), (514, .inr (.inl (1, mt)))]) := by
    intro hp9
    by_cases hnm : n ≤ 2
    · have e9 : hnx B R bs n mt s 4 = false := hnx_st (m := 2) hp9 hnm 2
      refine J.run (sn_X7_hasNext F) 7 [0, 1] (S' := (74, [(0, .ref 500), (1, .int (nI s)), (2, .int q), (3, .int 0), (4, .int 2)], [.int 0], [(500, mO z), (502, a14 h), (514, .inr (.inl (1, mt)))])) (ob := [ix 0 0 14, (h 0) ≤ 2]) rfl (ob_c (ix_of rfl) (ob_c (by rw [hn0]; exact n_le (b := 2) (by omega) (by omega) hnm) ob_n)) ?_
      exact J.iret F hR (Nat.le_refl _) (Nat.le_refl _) rfl rfl (by decide +kernel) ⟨rfl, keq [500, 502, 514] rfl rfl, by rw [e9]; rfl, rfl⟩
    · have hbs : bs 2 = hB q 2 := (H 2 (by decide)).2.2.2.2.1
      refine J.run (sn_X7_hasNext F) 10 [0, 0, 0] (S' := (23, [(0, .ref 500), (1, .int (nI s)), (2, .int q), (3, .int 0), (4, .int 2)], [.int 2, .int q], [(500, mO z), (502, a14 h), (514, .inr (.inl (1, mt)))])) (ob := [ix 0 0 14, ¬ (h 0) ≤ 2, (0 : Int32) = 0]) rfl (ob_c (ix_of rfl) (ob_c (by rw [hn0]; exact n_nle (b := 2) (by omega) (by omega) (by omega)) (ob_c (by decide) ob_n))) ?_
      cases hb1 : hB q 2
      · skip
        refine J.run (sn_X7_hasNext F) 10 [1, 1] (S' := (65, [(0, .ref 500), (1, .int (nI s)), (2, .int q), (3, .int 0), (4, .int 2), (5, .int (-1))], [], [(500, mO z), (502, a14 h), (514, .inr (.inl (1, mt)))])) (ob := [¬ ((q >>> ((2 : Int32) &&& 31)) &&& 1) = 1, ((-1) : Int32) = (-1)]) rfl (ob_c (hB_f hb1) (ob_c (by decide) ob_n)) ?_
        refine J.run (sn_X7_hasNext F) 4 [] (S' := (5, [(0, .ref 500), (1, .int (nI s)), (2, .int q), (3, .int 0), (4, .int 3), (5, .int (-1))], [], [(500, mO z), (502, a14 h), (514, .inr (.inl (1, mt)))])) (ob := []) rfl (ob_n) ?_
        refine J.lv (lv' := [(0, .ref 500), (1, .int (nI s)), (2, .int q), (3, .int 0), (4, .int 3)]) [0, 1, 2, 3, 4] rfl ?_
        exact G3 (hnx_f hp9 (hnM_b (hbs.trans hb1)))
      · skip
        refine J.run (sn_X7_hasNext F) 9 [0] (S' := (35, [(0, .ref 500), (1, .int (nI s)), (2, .int q), (3, .int 0), (4, .int 2)], [.int 2, .int q, .int (nI s), .ref 500], [(500, mO z), (502, a14 h), (514, .inr (.inl (1, mt)))])) (ob := [((q >>> ((2 : Int32) &&& 31)) &&& 1) = 1]) rfl (ob_c (hB_t hb1) ob_n) ?_
        refine J.callVK F hJ lk_X7_209 im_X7_goesOn se_X7_goesOn (by decide +kernel) (c_goes2 z h (nI s) q) (fun k => k) (by decide) [] [500, 502] rfl rfl rfl rfl rfl rfl (by decide +kernel) rfl (by decide +kernel) (fun r ws' hk hp => ?_)
        obtain ⟨rfl, rfl⟩ := hp
        show J x 6 (ad, 0, 0) (38, [(0, .ref 500), (1, .int (nI s)), (2, .int q), (3, .int 0), (4, .int 2)], [.int (goN h q 2 (nI s))], [(500, mO z), (502, a14 h), (514, .inr (.inl (1, mt)))])
        rw [goN_N H (w := 2) (by decide) hs31]
        cases hg : gst B R bs 2 s
        · skip
          show J x 6 (ad, 0, 0) (38, [(0, .ref 500), (1, .int (nI s)), (2, .int q), (3, .int 0), (4, .int 2)], [.int (-1)], [(500, mO z), (502, a14 h), (514, .inr (.inl (1, mt)))])
          refine J.run (sn_X7_hasNext F) 9 [1] (S' := (5, [(0, .ref 500), (1, .int (nI s)), (2, .int q), (3, .int 0), (4, .int 3), (5, .int (-1))], [], [(500, mO z), (502, a14 h), (514, .inr (.inl (1, mt)))])) (ob := [((-1) : Int32) = (-1)]) rfl (ob_c (by decide) ob_n) ?_
          refine J.lv (lv' := [(0, .ref 500), (1, .int (nI s)), (2, .int q), (3, .int 0), (4, .int 3)]) [0, 1, 2, 3, 4] rfl ?_
          exact G3 (hnx_f hp9 (hnM_g hg))
        rename_i y
        · skip
          have hvy := gst_ok H hv hg
          have hy31 : y < 2 ^ 31 := Nat.lt_trans hvy.1 (by decide)
          show J x 6 (ad, 0, 0) (38, [(0, .ref 500), (1, .int (nI s)), (2, .int q), (3, .int 0), (4, .int 2)], [.int (nI y)], [(500, mO z), (502, a14 h), (514, .inr (.inl (1, mt)))])
          refine J.run (sn_X7_hasNext F) 10 [0, y] (S' := (58, [(0, .ref 500), (1, .int (nI s)), (2, .int q), (3, .int 0), (4, .int 2), (5, .int (nI y))], [.int 1, .int (gi mt y)], [(500, mO z), (502, a14 h), (514, .inr (.inl (1, mt)))])) (ob := [¬ (nI y) = (-1), ix (nI y) y mt.length]) rfl (ob_c (nI_m1 hy31) (ob_c (ix_len hmt (ix_nI hvy.1 (by decide))) ob_n)) ?_
          by_cases h2 : (gi mt y) = 1
          · skip
            refine J.run (sn_X7_hasNext F) 6 [0] (S' := (5, [(0, .ref 500), (1, .int (nI s)), (2, .int q), (3, .int 1), (4, .int 3), (5, .int (nI y))], [], [(500, mO z), (502, a14 h), (514, .inr (.inl (1, mt)))])) (ob := [(gi mt y) = 1]) rfl (ob_c h2 ob_n) ?_
            by_cases h3 : (h 0) ≤ 3
            · skip
              refine J.run (sn_X7_hasNext F) 7 [0, 1] (S' := (74, [(0, .ref 500), (1, .int (nI s)), (2, .int q), (3, .int 1), (4, .int 3), (5, .int (nI y))], [.int 1], [(500, mO z), (502, a14 h), (514, .inr (.inl (1, mt)))])) (ob := [ix 0 0 14, (h 0) ≤ 3]) rfl (ob_c (ix_of rfl) (ob_c h3 ob_n)) ?_
              exact J.iret F hR (Nat.le_refl _) (Nat.le_refl _) rfl rfl (by decide +kernel) ⟨rfl, keq [500, 502, 514] rfl rfl, by rw [show hnx B R bs n mt s 4 = true from hnx_up (m := 3) (hnx_t ((hnM_y (by omega) (hbs.trans hb1) hg).trans (decide_eq_true h2))) 1]; rfl, rfl⟩
            · skip
              refine J.run (sn_X7_hasNext F) 9 [0, 0, 1] (S' := (74, [(0, .ref 500), (1, .int (nI s)), (2, .int q), (3, .int 1), (4, .int 3), (5, .int (nI y))], [.int 1], [(500, mO z), (502, a14 h), (514, .inr (.inl (1, mt)))])) (ob := [ix 0 0 14, ¬ (h 0) ≤ 3, ¬ (1 : Int32) = 0]) rfl (ob_c (ix_of rfl) (ob_c h3 (ob_c (by decide) ob_n))) ?_
              exact J.iret F hR (Nat.le_refl _) (Nat.le_refl _) rfl rfl (by decide +kernel) ⟨rfl, keq [500, 502, 514] rfl rfl, by rw [show hnx B R bs n mt s 4 = true from hnx_up (m := 3) (hnx_t ((hnM_y (by omega) (hbs.trans hb1) hg).trans (decide_eq_true h2))) 1]; rfl, rfl⟩
          · skip
            refine J.run (sn_X7_hasNext F) 5 [1] (S' := (5, [(0, .ref 500), (1, .int (nI s)), (2, .int q), (3, .int 0), (4, .int 3), (5, .int (nI y))], [], [(500, mO z), (502, a14 h), (514, .inr (.inl (1, mt)))])) (ob := [¬ (gi mt y) = 1]) rfl (ob_c h2 ob_n) ?_
            refine J.lv (lv' := [(0, .ref 500), (1, .int (nI s)), (2, .int q), (3, .int 0), (4, .int 3)]) [0, 1, 2, 3, 4] rfl ?_
            exact G3 (hnx_f hp9 ((hnM_y (by omega) (hbs.trans hb1) hg).trans (decide_eq_false h2)))
  have G1 : hnx B R bs n mt s 1 = false → J x 6 (ad, 0, 0) (5, [(0, .ref 500), (1, .int (nI s)), (2, .int q), (3, .int 0), (4, .int 1)], [], [(500, mO z), (502, a14 h), (514, .inr (.inl (1, mt)))]) := by
    intro hp9
    by_cases hnm : n ≤ 1
    · have e9 : hnx B R bs n mt s 4 = false := hnx_st (m := 1) hp9 hnm 3
      refine J.run (sn_X7_hasNext F) 7 [0, 1] (S' := (74, [(0, .ref 500), (1, .int (nI s)), (2, .int q), (3, .int 0), (4, .int 1)], [.int 0], [(500, mO z), (502, a14 h), (514, .inr (.inl (1, mt)))])) (ob := [ix 0 0 14, (h 0) ≤ 1]) rfl (ob_c (ix_of rfl) (ob_c (by rw [hn0]; exact n_le (b := 1) (by omega) (by omega) hnm) ob_n)) ?_
      exact J.iret F hR (Nat.le_refl _) (Nat.le_refl _) rfl rfl (by decide +kernel) ⟨rfl, keq [500, 502, 514] rfl rfl, by rw [e9]; rfl, rfl⟩
    · have hbs : bs 1 = hB q 1 := (H 1 (by decide)).2.2.2.2.1
      refine J.run (sn_X7_hasNext F) 10 [0, 0, 0] (S' := (23, [(0, .ref 500), (1, .int (nI s)), (2, .int q), (3, .int 0), (4, .int 1)], [.int 1, .int q], [(500, mO z), (502, a14 h), (514, .inr (.inl (1, mt)))])) (ob := [ix 0 0 14, ¬ (h 0) ≤ 1, (0 : Int32) = 0]) rfl (ob_c (ix_of rfl) (ob_c (by rw [hn0]; exact n_nle (b := 1) (by omega) (by omega) (by omega)) (ob_c (by decide) ob_n))) ?_
      cases hb1 : hB q 1
      · skip
        refine J.run (sn_X7_hasNext F) 10 [1, 1] (S' := (65, [(0, .ref 500), (1, .int (nI s)), (2, .int q), (3, .int 0), (4, .int 1), (5, .int (-1))], [], [(500, mO z), (502, a14 h), (514, .inr (.inl (1, mt)))])) (ob := [¬ ((q >>> ((1 : Int32) &&& 31)) &&& 1) = 1, ((-1) : Int32) = (-1)]) rfl (ob_c (hB_f hb1) (ob_c (by decide) ob_n)) ?_
        refine J.run (sn_X7_hasNext F) 4 [] (S' := (5, [(0, .ref 500), (1, .int (nI s)), (2, .int q), (3, .int 0), (4, .int 2), (5, .int (-1))], [], [(500, mO z), (502, a14 h), (514, .inr (.inl (1, mt)))])) (ob := []) rfl (ob_n) ?_
        refine J.lv (lv' := [(0, .ref 500), (1, .int (nI s)), (2, .int q), (3, .int 0), (4, .int 2)]) [0, 1, 2, 3, 4] rfl ?_
        exact G2 (hnx_f hp9 (hnM_b (hbs.trans hb1)))
      · skip
        refine J.run (sn_X7_hasNext F) 9 [0] (S' := (35, [(0, .ref 500), (1, .int (nI s)), (2, .int q), (3, .int 0), (4, .int 1)], [.int 1, .int q, .int (nI s), .ref 500], [(500, mO z), (502, a14 h), (514, .inr (.inl (1, mt)))])) (ob := [((q >>> ((1 : Int32) &&& 31)) &&& 1) = 1]) rfl (ob_c (hB_t hb1) ob_n) ?_
        refine J.callVK F hJ lk_X7_209 im_X7_goesOn se_X7_goesOn (by decide +kernel) (c_goes1 z h (nI s) q) (fun k => k) (by decide) [] [500, 502] rfl rfl rfl rfl rfl rfl (by decide +kernel) rfl (by decide +kernel) (fun r ws' hk hp => ?_)
        obtain ⟨rfl, rfl⟩ := hp
        show J x 6 (ad, 0, 0) (38, [(0, .ref 500), (1, .int (nI s)), (2, .int q), (3, .int 0), (4, .int 1)], [.int (goN h q 1 (nI s))], [(500, mO z), (502, a14 h), (514, .inr (.inl (1, mt)))])
        rw [goN_N H (w := 1) (by decide) hs31]
        cases hg : gst B R bs 1 s
        · skip
          show J x 6 (ad, 0, 0) (38, [(0, .ref 500), (1, .int (nI s)), (2, .int q), (3, .int 0), (4, .int 1)], [.int (-1)], [(500, mO z), (502, a14 h), (514, .inr (.inl (1, mt)))])
          refine J.run (sn_X7_hasNext F) 9 [1] (S' := (5, [(0, .ref 500), (1, .int (nI s)), (2, .int q), (3, .int 0), (4, .int 2), (5, .int (-1))], [], [(500, mO z), (502, a14 h), (514, .inr (.inl (1, mt)))])) (ob := [((-1) : Int32) = (-1)]) rfl (ob_c (by decide) ob_n) ?_
          refine J.lv (lv' := [(0, .ref 500), (1, .int (nI s)), (2, .int q), (3, .int 0), (4, .int 2)]) [0, 1, 2, 3, 4] rfl ?_
          exact G2 (hnx_f hp9 (hnM_g hg))
        rename_i y
        · skip
          have hvy := gst_ok H hv hg
          have hy31 : y < 2 ^ 31 := Nat.lt_trans hvy.1 (by decide)
          show J x 6 (ad, 0, 0) (38, [(0, .ref 500), (1, .int (nI s)), (2, .int q), (3, .int 0), (4, .int 1)], [.int (nI y)], [(500, mO z), (502, a14 h), (514, .inr (.inl (1, mt)))])
          refine J.run (sn_X7_hasNext F) 10 [0, y] (S' := (58, [(0, .ref 500), (1, .int (nI s)), (2, .int q), (3, .int 0), (4, .int 1), (5, .int (nI y))], [.int 1, .int (gi mt y)], [(500, mO z), (502, a14 h), (514, .inr (.inl (1, mt)))])) (ob := [¬ (nI y) = (-1), ix (nI y) y mt.length]) rfl (ob_c (nI_m1 hy31) (ob_c (ix_len hmt (ix_nI hvy.1 (by decide))) ob_n)) ?_
          by_cases h2 : (gi mt y) = 1
          · skip
            refine J.run (sn_X7_hasNext F) 6 [0] (S' := (5, [(0, .ref 500), (1, .int (nI s)), (2, .int q), (3, .int 1), (4, .int 2), (5, .int (nI y))], [], [(500, mO z), (502, a14 h), (514, .inr (.inl (1, mt)))])) (ob := [(gi mt y) = 1]) rfl (ob_c h2 ob_n) ?_
            by_cases h3 : (h 0) ≤ 2
            · skip
              refine J.run (sn_X7_hasNext F) 7 [0, 1] (S' := (74, [(0, .ref 500), (1, .int (nI s)), (2, .int q), (3, .int 1), (4, .int 2), (5, .int (nI y))], [.int 1], [(500, mO z), (502, a14 h), (514, .inr (.inl (1, mt)))])) (ob := [ix 0 0 14, (h 0) ≤ 2]) rfl (ob_c (ix_of rfl) (ob_c h3 ob_n)) ?_
              exact J.iret F hR (Nat.le_refl _) (Nat.le_refl _) rfl rfl (by decide +kernel) ⟨rfl, keq [500, 502, 514] rfl rfl, by rw [show hnx B R bs n mt s 4 = true from hnx_up (m := 2) (hnx_t ((hnM_y (by omega) (hbs.trans hb1) hg).trans (decide_eq_true h2))) 2]; rfl, rfl⟩
            · skip
              refine J.run (sn_X7_hasNext F) 9 [0, 0, 1] (S' := (74, [(0, .ref 500), (1, .int (nI s)), (2, .int q), (3, .int 1), (4, .int 2), (5, .int (nI y))], [.int 1], [(500, mO z), (502, a14 h), (514, .inr (.inl (1, mt)))])) (ob := [ix 0 0 14, ¬ (h 0) ≤ 2, ¬ (1 : Int32) = 0]) rfl (ob_c (ix_of rfl) (ob_c h3 (ob_c (by decide) ob_n))) ?_
              exact J.iret F hR (Nat.le_refl _) (Nat.le_refl _) rfl rfl (by decide +kernel) ⟨rfl, keq [500, 502, 514] rfl rfl, by rw [show hnx B R bs n mt s 4 = true from hnx_up (m := 2) (hnx_t ((hnM_y (by omega) (hbs.trans hb1) hg).trans (decide_eq_true h2))) 2]; rfl, rfl⟩
          · skip
            refine J.run (sn_X7_hasNext F) 5 [1] (S' := (5, [(0, .ref 500), (1, .int (nI s)), (2, .int q), (3, .int 0), (4, .int 2), (5, .int (nI y))], [], [(500, mO z), (502, a14 h), (514, .inr (.inl (1, mt)))])) (ob := [¬ (gi mt y) = 1]) rfl (ob_c h2 ob_n) ?_
            refine J.lv (lv' := [(0, .ref 500), (1, .int (nI s)), (2, .int q), (3, .int 0), (4, .int 2)]) [0, 1, 2, 3, 4] rfl ?_
            exact G2 (hnx_f hp9 ((hnM_y (by omega) (hbs.trans hb1) hg).trans (decide_eq_false h2)))
  have G0 : hnx B R bs n mt s 0 = false → J x 6 (ad, 0, 0) (5, [(0, .ref 500), (1, .int (nI s)), (2, .int q), (3, .int 0), (4, .int 0)], [], [(500, mO z), (502, a14 h), (514, .inr (.inl (1, mt)))]) := by
    intro hp9
    by_cases hnm : n ≤ 0
    · have e9 : hnx B R bs n mt s 4 = false := hnx_st (m := 0) hp9 hnm 4
      refine J.run (sn_X7_hasNext F) 7 [0, 1] (S' := (74, [(0, .ref 500), (1, .int (nI s)), (2, .int q), (3, .int 0), (4, .int 0)], [.int 0], [(500, mO z), (502, a14 h), (514, .inr (.inl (1, mt)))])) (ob := [ix 0 0 14, (h 0) ≤ 0]) rfl (ob_c (ix_of rfl) (ob_c (by rw [hn0]; exact n_le (b := 0) (by omega) (by omega) hnm) ob_n)) ?_
      exact J.iret F hR (Nat.le_refl _) (Nat.le_refl _) rfl rfl (by decide +kernel) ⟨rfl, keq [500, 502, 514] rfl rfl, by rw [e9]; rfl, rfl⟩
    · have hbs : bs 0 = hB q 0 := (H 0 (by decide)).2.2.2.2.1
      refine J.run (sn_X7_hasNext F) 10 [0, 0, 0] (S' := (23, [(0, .ref 500), (1, .int (nI s)), (2, .int q), (3, .int 0), (4, .int 0)], [.int 0, .int q], [(500, mO z), (502, a14 h), (514, .inr (.inl (1, mt)))])) (ob := [ix 0 0 14, ¬ (h 0) ≤ 0, (0 : Int32) = 0]) rfl (ob_c (ix_of rfl) (ob_c (by rw [hn0]; exact n_nle (b := 0) (by omega) (by omega) (by omega)) (ob_c (by decide) ob_n))) ?_
      cases hb1 : hB q 0
      · skip
        refine J.run (sn_X7_hasNext F) 10 [1, 1] (S' := (65, [(0, .ref 500), (1, .int (nI s)), (2, .int q), (3, .int 0), (4, .int 0), (5, .int (-1))], [], [(500, mO z), (502, a14 h), (514, .inr (.inl (1, mt)))])) (ob := [¬ ((q >>> ((0 : Int32) &&& 31)) &&& 1) = 1, ((-1) : Int32) = (-1)]) rfl (ob_c (hB_f hb1) (ob_c (by decide) ob_n)) ?_
        refine J.run (sn_X7_hasNext F) 4 [] (S' := (5, [(0, .ref 500), (1, .int (nI s)), (2, .int q), (3, .int 0), (4, .int 1), (5, .int (-1))], [], [(500, mO z), (502, a14 h), (514, .inr (.inl (1, mt)))])) (ob := []) rfl (ob_n) ?_
        refine J.lv (lv' := [(0, .ref 500), (1, .int (nI s)), (2, .int q), (3, .int 0), (4, .int 1)]) [0, 1, 2, 3, 4] rfl ?_
        exact G1 (hnx_f hp9 (hnM_b (hbs.trans hb1)))
      · skip
        refine J.run (sn_X7_hasNext F) 9 [0] (S' := (35, [(0, .ref 500), (1, .int (nI s)), (2, .int q), (3, .int 0), (4, .int 0)], [.int 0, .int q, .int (nI s), .ref 500], [(500, mO z), (502, a14 h), (514, .inr (.inl (1, mt)))])) (ob := [((q >>> ((0 : Int32) &&& 31)) &&& 1) = 1]) rfl (ob_c (hB_t hb1) ob_n) ?_
        refine J.callVK F hJ lk_X7_209 im_X7_goesOn se_X7_goesOn (by decide +kernel) (c_goes0 z h (nI s) q) (fun k => k) (by decide) [] [500, 502] rfl rfl rfl rfl rfl rfl (by decide +kernel) rfl (by decide +kernel) (fun r ws' hk hp => ?_)
        obtain ⟨rfl, rfl⟩ := hp
        show J x 6 (ad, 0, 0) (38, [(0, .ref 500), (1, .int (nI s)), (2, .int q), (3, .int 0), (4, .int 0)], [.int (goN h q 0 (nI s))], [(500, mO z), (502, a14 h), (514, .inr (.inl (1, mt)))])
        rw [goN_N H (w := 0) (by decide) hs31]
        cases hg : gst B R bs 0 s
        · skip
          show J x 6 (ad, 0, 0) (38, [(0, .ref 500), (1, .int (nI s)), (2, .int q), (3, .int 0), (4, .int 0)], [.int (-1)], [(500, mO z), (502, a14 h), (514, .inr (.inl (1, mt)))])
          refine J.run (sn_X7_hasNext F) 9 [1] (S' := (5, [(0, .ref 500), (1, .int (nI s)), (2, .int q), (3, .int 0), (4, .int 1), (5, .int (-1))], [], [(500, mO z), (502, a14 h), (514, .inr (.inl (1, mt)))])) (ob := [((-1) : Int32) = (-1)]) rfl (ob_c (by decide) ob_n) ?_
          refine J.lv (lv' := [(0, .ref 500), (1, .int (nI s)), (2, .int q), (3, .int 0), (4, .int 1)]) [0, 1, 2, 3, 4] rfl ?_
          exact G1 (hnx_f hp9 (hnM_g hg))
        rename_i y
        · skip
          have hvy := gst_ok H hv hg
          have hy31 : y < 2 ^ 31 := Nat.lt_trans hvy.1 (by decide)
          show J x 6 (ad, 0, 0) (38, [(0, .ref 500), (1, .int (nI s)), (2, .int q), (3, .int 0), (4, .int 0)], [.int (nI y)], [(500, mO z), (502, a14 h), (514, .inr (.inl (1, mt)))])
          refine J.run (sn_X7_hasNext F) 10 [0, y] (S' := (58, [(0, .ref 500), (1, .int (nI s)), (2, .int q), (3, .int 0), (4, .int 0), (5, .int (nI y))], [.int 1, .int (gi mt y)], [(500, mO z), (502, a14 h), (514, .inr (.inl (1, mt)))])) (ob := [¬ (nI y) = (-1), ix (nI y) y mt.length]) rfl (ob_c (nI_m1 hy31) (ob_c (ix_len hmt (ix_nI hvy.1 (by decide))) ob_n)) ?_
          by_cases h2 : (gi mt y) = 1
          · skip
            refine J.run (sn_X7_hasNext F) 6 [0] (S' := (5, [(0, .ref 500), (1, .int (nI s)), (2, .int q), (3, .int 1), (4, .int 1), (5, .int (nI y))], [], [(500, mO z), (502, a14 h), (514, .inr (.inl (1, mt)))])) (ob := [(gi mt y) = 1]) rfl (ob_c h2 ob_n) ?_
            by_cases h3 : (h 0) ≤ 1
            · skip
              refine J.run (sn_X7_hasNext F) 7 [0, 1] (S' := (74, [(0, .ref 500), (1, .int (nI s)), (2, .int q), (3, .int 1), (4, .int 1), (5, .int (nI y))], [.int 1], [(500, mO z), (502, a14 h), (514, .inr (.inl (1, mt)))])) (ob := [ix 0 0 14, (h 0) ≤ 1]) rfl (ob_c (ix_of rfl) (ob_c h3 ob_n)) ?_
              exact J.iret F hR (Nat.le_refl _) (Nat.le_refl _) rfl rfl (by decide +kernel) ⟨rfl, keq [500, 502, 514] rfl rfl, by rw [show hnx B R bs n mt s 4 = true from hnx_up (m := 1) (hnx_t ((hnM_y (by omega) (hbs.trans hb1) hg).trans (decide_eq_true h2))) 3]; rfl, rfl⟩
            · skip
              refine J.run (sn_X7_hasNext F) 9 [0, 0, 1] (S' := (74, [(0, .ref 500), (1, .int (nI s)), (2, .int q), (3, .int 1), (4, .int 1), (5, .int (nI y))], [.int 1], [(500, mO z), (502, a14 h), (514, .inr (.inl (1, mt)))])) (ob := [ix 0 0 14, ¬ (h 0) ≤ 1, ¬ (1 : Int32) = 0]) rfl (ob_c (ix_of rfl) (ob_c h3 (ob_c (by decide) ob_n))) ?_
              exact J.iret F hR (Nat.le_refl _) (Nat.le_refl _) rfl rfl (by decide +kernel) ⟨rfl, keq [500, 502, 514] rfl rfl, by rw [show hnx B R bs n mt s 4 = true from hnx_up (m := 1) (hnx_t ((hnM_y (by omega) (hbs.trans hb1) hg).trans (decide_eq_true h2))) 3]; rfl, rfl⟩
          · skip
            refine J.run (sn_X7_hasNext F) 5 [1] (S' := (5, [(0, .ref 500), (1, .int (nI s)), (2, .int q), (3, .int 0), (4, .int 1), (5, .int (nI y))], [], [(500, mO z), (502, a14 h), (514, .inr (.inl (1, mt)))])) (ob := [¬ (gi mt y) = 1]) rfl (ob_c h2 ob_n) ?_
            refine J.lv (lv' := [(0, .ref 500), (1, .int (nI s)), (2, .int q), (3, .int 0), (4, .int 1)]) [0, 1, 2, 3, 4] rfl ?_
            exact G1 (hnx_f hp9 ((hnM_y (by omega) (hbs.trans hb1) hg).trans (decide_eq_false h2)))
  refine J.run (sn_X7_hasNext F) 4 [] (S' := (5, [(0, .ref 500), (1, .int (nI s)), (2, .int q), (3, .int 0), (4, .int 0)], [], [(500, mO z), (502, a14 h), (514, .inr (.inl (1, mt)))])) (ob := []) rfl (ob_n) ?_
  exact G0 rfl
