/-! what every book of the walk keeps: seats in their bounds, debts that cannot overflow -/
def gN4 (a b c d : Nat) : Nat → Nat
  | 0 => a
  | 1 => b
  | 2 => c
  | _ => d
theorem inB_nI {j u : Nat} (hu : u < 2 ^ 31) (h : j ≤ u) : inB (nI j) (nI 0) (nI u) = true := by
  unfold inB
  rw [decide_eq_false (nI_nlt (b := 0) (Nat.zero_le j) (by omega)), decide_eq_false (nI_nlt h hu)]
  rfl
def SvB (h b : Nat → Int32) : Prop := ∃ B R A E W : Nat → Nat, ∀ m, m < 4 → h (2 + m) = nI (B m) ∧ h (6 + m) = nI (R m) ∧ Br (B m) (R m) ∧ b (9 + m) = nI (A m) ∧ b (13 + m) = nI (E m) ∧ b (17 + m) = nI (W m) ∧ Sv (B m) (R m) (A m) (E m) (W m)
theorem play_A (h b : Nat → Int32) (s : Int32) {m : Nat} (hm : m < 4) : play h b s (9 + m) = nA (spk b s m) (h (2 + m)) (h (6 + m)) (b (9 + m)) (b (13 + m)) := by
  match m, hm with
  | 0, _ => rfl
  | 1, _ => rfl
  | 2, _ => rfl
  | 3, _ => rfl
theorem play_E (h b : Nat → Int32) (s : Int32) {m : Nat} (hm : m < 4) : play h b s (13 + m) = nE (spk b s m) (h (2 + m)) (h (6 + m)) (b (9 + m)) (b (13 + m)) := by
  match m, hm with
  | 0, _ => rfl
  | 1, _ => rfl
  | 2, _ => rfl
  | 3, _ => rfl
theorem play_W (h b : Nat → Int32) (s : Int32) {m : Nat} (hm : m < 4) : play h b s (17 + m) = nW (spk b s m) (b (17 + m)) := by
  match m, hm with
  | 0, _ => rfl
  | 1, _ => rfl
  | 2, _ => rfl
  | 3, _ => rfl
theorem SvB_play {h b : Nat → Int32} (H : SvB h b) (s : Int32) : SvB h (play h b s) := by
  obtain ⟨B, R, A, E, W, H⟩ := H
  refine ⟨B, R, fun m => (nxN (B m) (R m) (spk b s m) (A m) (E m)).1, fun m => (nxN (B m) (R m) (spk b s m) (A m) (E m)).2, fun m => bif spk b s m then W m - 1 else W m, fun m hm => ?_⟩
  obtain ⟨h1, h2, h3, h4, h5, h6, h7⟩ := H m hm
  obtain ⟨v1, v2, v3, v4⟩ := h7
  obtain ⟨b1, b2, b3⟩ := h3
  have hf : spk b s m = true → 0 < A m ∧ 0 < W m := by
    intro q
    have q2 := (Bool.and_eq_true_iff.mp q).2
    rw [h4, h6, canB_N (by omega) (by omega)] at q2
    obtain ⟨q3, q4⟩ := Bool.and_eq_true_iff.mp q2
    exact ⟨of_decide_eq_true q3, of_decide_eq_true q4⟩
  refine ⟨h1, h2, ⟨b1, b2, b3⟩, ?_, ?_, ?_, Sv_nx ⟨b1, b2, b3⟩ ⟨v1, v2, v3, v4⟩ (fun q => (hf q).1)⟩
  · rw [play_A h b s hm, h1, h2, h4, h5]
    exact nA_N ⟨b1, b2, b3⟩ v1 v3 (fun q => (hf q).1)
  · rw [play_E h b s hm, h1, h2, h4, h5]
    exact nE_N ⟨b1, b2, b3⟩ v1 v3
  · rw [play_W h b s hm, h6]
    exact nW_N (fun q => (hf q).2)
def OwB (M : Nat) (b : Nat → Int32) : Prop := ∃ (C o U : Nat) (O : Nat → Nat), b 1 = nI C ∧ C ≤ 99 ∧ b 2 = nI o ∧ o ≤ 99 ∧ b 8 = nI U ∧ ∀ k, k < 4 → b (21 + k) = nI (O k) ∧ O k + 99 * U ≤ M
theorem div_nI : ∀ C, C < 100 → ∀ n, n < 5 → 0 < n → nI C / nI n = nI (C / n) := by decide +kernel
theorem psO_N {k st c j o : Int32} {n : Nat} (hn : n ≤ 4) {O C : Nat} (ho : o = nI O) (hc : c = nI C) (hC : C ≤ 99) (hj : 0 ≤ j) : ∃ O', psO k st c (nI n) j o = nI O' ∧ (k = 1 → O' = O) ∧ O' ≤ O + 99 := by
  subst ho
  subst hc
  unfold psO ptO
  by_cases k1 : k = 1
  · rw [if_pos k1]; exact ⟨O, rfl, fun _ => rfl, by omega⟩
  · rw [if_neg k1]
    by_cases k2 : k = 2
    · rw [if_pos k2]
      by_cases n0 : nI n ≤ 0
      · rw [if_pos n0]; exact ⟨O, rfl, fun q => absurd q k1, by omega⟩
      · rw [if_neg n0]
        by_cases nj : nI n ≤ j
        · rw [if_pos nj]; exact ⟨O, rfl, fun q => absurd q k1, by omega⟩
        · rw [if_neg nj]
          have hn0 : 0 < n := by
            rcases Nat.eq_zero_or_pos n with e | e
            · subst e; exact absurd hj (fun q => nj q)
            · exact e
          rw [div_nI C (by omega) n (by omega) hn0, nI_add]
          have := Nat.div_le_self C n
          exact ⟨O + C / n, rfl, fun q => absurd q k1, by omega⟩
    · rw [if_neg k2]
      by_cases sj : st = j
      · rw [if_pos sj, nI_add]; exact ⟨O + C, rfl, fun q => absurd q k1, by omega⟩
      · rw [if_neg sj]; exact ⟨O, rfl, fun q => absurd q k1, by omega⟩
theorem pkO_N {s j c u o x : Int32} {f : Bool} {C U G O : Nat} (hc : c = nI C) (hu : u = nI U) (ho : o = nI G) (hx : x = nI O) (hC : C ≤ 99) (hG : G ≤ 99) : ∃ O', pkO s f j c u o x = nI O' ∧ O' ≤ O + 99 * U + 99 := by
  subst hc
  subst hu
  subst ho
  subst hx
  unfold pkO
  have h1 : C * U ≤ 99 * U := Nat.mul_le_mul_right U hC
  cases hB s j with
  | false => exact ⟨O, rfl, by omega⟩
  | true =>
    cases f with
    | true => exact ⟨O + G, by show nI O + nI G = _; rw [nI_add], by omega⟩
    | false => exact ⟨O + C * U, by show nI O + nI C * nI U = _; rw [nI_mul, nI_add], by omega⟩
theorem OwB_play {M n : Nat} {h b : Nat → Int32} (h0 : h 0 = nI n) (hn : n ≤ 4) (H : OwB M b) (s : Int32) : OwB (M + 99) (play h b s) := by
  obtain ⟨C, G, U, O, e1, hC, e2, hG, e8, H⟩ := H
  have k0 : play h b s 21 = if who b s = 0 then psO (b 0) (b 7) (b 1) (h 0) 0 (b 21) else pkO (who b s) false 0 (b 1) (b 8) (b 2) (b 21) := rfl
  have k1 : play h b s 22 = if who b s = 0 then psO (b 0) (b 7) (b 1) (h 0) 1 (b 22) else pkO (who b s) (hB (who b s) 0) 1 (b 1) (b 8) (b 2) (b 22) := rfl
  have k2 : play h b s 23 = if who b s = 0 then psO (b 0) (b 7) (b 1) (h 0) 2 (b 23) else pkO (who b s) (hB (who b s) 0 || hB (who b s) 1) 2 (b 1) (b 8) (b 2) (b 23) := rfl
  have k3 : play h b s 24 = if who b s = 0 then psO (b 0) (b 7) (b 1) (h 0) 3 (b 24) else pkO (who b s) (hB (who b s) 0 || hB (who b s) 1 || hB (who b s) 2) 3 (b 1) (b 8) (b 2) (b 24) := rfl
  have k8 : play h b s 8 = if who b s = 0 then psU (b 0) (b 8) else 0 := rfl
  obtain ⟨o0, m0⟩ := H 0 (by decide)
  obtain ⟨o1, m1⟩ := H 1 (by decide)
  obtain ⟨o2, m2⟩ := H 2 (by decide)
  obtain ⟨o3, m3⟩ := H 3 (by decide)
  rw [h0] at k0 k1 k2 k3
  by_cases hw : who b s = 0
  · rw [if_pos hw] at k0 k1 k2 k3 k8
    obtain ⟨p0, a0, c0, d0⟩ := psO_N (k := b 0) (st := b 7) (j := 0) hn o0 e1 hC (by decide)
    obtain ⟨p1, a1, c1, d1⟩ := psO_N (k := b 0) (st := b 7) (j := 1) hn o1 e1 hC (by decide)
    obtain ⟨p2, a2, c2, d2⟩ := psO_N (k := b 0) (st := b 7) (j := 2) hn o2 e1 hC (by decide)
    obtain ⟨p3, a3, c3, d3⟩ := psO_N (k := b 0) (st := b 7) (j := 3) hn o3 e1 hC (by decide)
    by_cases hk : b 0 = 1
    · refine ⟨C, G, U + 1, gN4 p0 p1 p2 p3, e1, hC, e2, hG, ?_, fun k hk4 => ?_⟩
      · rw [k8]; unfold psU; rw [if_pos hk, e8, nI_1]
      · match k, hk4 with
        | 0, _ => exact ⟨k0.trans a0, by show p0 + 99 * (U + 1) ≤ _; rw [c0 hk]; omega⟩
        | 1, _ => exact ⟨k1.trans a1, by show p1 + 99 * (U + 1) ≤ _; rw [c1 hk]; omega⟩
        | 2, _ => exact ⟨k2.trans a2, by show p2 + 99 * (U + 1) ≤ _; rw [c2 hk]; omega⟩
        | 3, _ => exact ⟨k3.trans a3, by show p3 + 99 * (U + 1) ≤ _; rw [c3 hk]; omega⟩
    · refine ⟨C, G, U, gN4 p0 p1 p2 p3, e1, hC, e2, hG, ?_, fun k hk4 => ?_⟩
      · rw [k8]; unfold psU; rw [if_neg hk, e8]
      · match k, hk4 with
        | 0, _ => exact ⟨k0.trans a0, by show p0 + 99 * U ≤ _; omega⟩
        | 1, _ => exact ⟨k1.trans a1, by show p1 + 99 * U ≤ _; omega⟩
        | 2, _ => exact ⟨k2.trans a2, by show p2 + 99 * U ≤ _; omega⟩
        | 3, _ => exact ⟨k3.trans a3, by show p3 + 99 * U ≤ _; omega⟩
  · rw [if_neg hw] at k0 k1 k2 k3 k8
    obtain ⟨p0, a0, d0⟩ := pkO_N (s := who b s) (j := 0) (f := false) e1 e8 e2 o0 hC hG
    obtain ⟨p1, a1, d1⟩ := pkO_N (s := who b s) (j := 1) (f := hB (who b s) 0) e1 e8 e2 o1 hC hG
    obtain ⟨p2, a2, d2⟩ := pkO_N (s := who b s) (j := 2) (f := hB (who b s) 0 || hB (who b s) 1) e1 e8 e2 o2 hC hG
    obtain ⟨p3, a3, d3⟩ := pkO_N (s := who b s) (j := 3) (f := hB (who b s) 0 || hB (who b s) 1 || hB (who b s) 2) e1 e8 e2 o3 hC hG
    refine ⟨C, G, 0, gN4 p0 p1 p2 p3, e1, hC, e2, hG, k8, fun k hk4 => ?_⟩
    match k, hk4 with
    | 0, _ => exact ⟨k0.trans a0, by show p0 + 99 * 0 ≤ _; omega⟩
    | 1, _ => exact ⟨k1.trans a1, by show p1 + 99 * 0 ≤ _; omega⟩
    | 2, _ => exact ⟨k2.trans a2, by show p2 + 99 * 0 ≤ _; omega⟩
    | 3, _ => exact ⟨k3.trans a3, by show p3 + 99 * 0 ≤ _; omega⟩
theorem lst_st (s : Int32) : lst s = -1 ∨ lst s = 0 ∨ lst s = 1 ∨ lst s = 2 ∨ lst s = 3 := by
  unfold lst
  cases hB s 0 <;> cases hB s 1 <;> cases hB s 2 <;> cases hB s 3 <;> simp
theorem play_st {h b : Nat → Int32} (hb : st5 b) (s : Int32) : st5 (play h b s) := by
  have e : play h b s 7 = if who b s = 0 then b 7 else lst (who b s) := rfl
  unfold st5
  rw [e]
  by_cases hw : who b s = 0
  · rw [if_pos hw]; exact hb
  · rw [if_neg hw]; exact lst_st _
def GM (M : Nat) (h b : Nat → Int32) : Prop := Bok h b ∧ Ow (h 0) b ∧ st5 b ∧ SvB h b ∧ OwB M b
theorem OwB_mono {M M' : Nat} {b : Nat → Int32} (H : OwB M b) (hM : M ≤ M') : OwB M' b := by
  obtain ⟨C, G, U, O, e1, hC, e2, hG, e8, H⟩ := H
  exact ⟨C, G, U, O, e1, hC, e2, hG, e8, fun k hk => ⟨(H k hk).1, Nat.le_trans (H k hk).2 hM⟩⟩
theorem GM.mono {M M' : Nat} {h b : Nat → Int32} (H : GM M h b) (hM : M ≤ M') : GM M' h b := ⟨H.1, H.2.1, H.2.2.1, H.2.2.2.1, OwB_mono H.2.2.2.2 hM⟩
theorem GM.play {M n : Nat} {h b : Nat → Int32} (R : Rok h) (h0 : h 0 = nI n) (hn : n ≤ 4) (H : GM M h b) (s : Int32) : GM (M + 99) h (play h b s) := ⟨Bok_play H.1 R s, Ow_play H.2.1 s, play_st H.2.2.1 s, SvB_play H.2.2.2.1 s, OwB_play h0 hn H.2.2.2.2 s⟩
theorem GM.plB {M n : Nat} {h b : Nat → Int32} (R : Rok h) (h0 : h 0 = nI n) (hn : n ≤ 4) (H : GM M h b) (ps : List Int32) : ∀ i, GM (M + 99 * i) h (plB h ps b i)
  | 0 => H
  | i + 1 => (GM.play R h0 hn (GM.plB R h0 hn H ps i) (gi ps i)).mono (by omega)
theorem GM.cdr {M n : Nat} {h b : Nat → Int32} (R : Rok h) (h0 : h 0 = nI n) (hn : n ≤ 4) (H : GM M h b) (sd : Int32) : ∀ i, GM (M + 99 * i) h (cdr h b sd i).1
  | 0 => H
  | i + 1 => (GM.play R h0 hn (GM.cdr R h0 hn H sd i) _).mono (by omega)
theorem GM.c25 {M : Nat} {h b c : Nat → Int32} (e : Eq25 b c) (H : GM M h b) : GM M h c := by
  obtain ⟨⟨s1, s2⟩, h2, h3, h4, h5⟩ := H
  refine ⟨⟨?_, ?_⟩, ?_, ?_, ?_, ?_⟩
  · unfold Seats at s1 ⊢
    rw [← e 9 (by decide), ← e 10 (by decide), ← e 11 (by decide), ← e 12 (by decide), ← e 13 (by decide), ← e 14 (by decide), ← e 15 (by decide), ← e 16 (by decide)]
    exact s1
  · unfold Kok at s2 ⊢
    rw [← e 0 (by decide)]
    exact s2
  · unfold Ow at h2 ⊢
    rw [← e 7 (by decide), ← e 17 (by decide), ← e 18 (by decide), ← e 19 (by decide), ← e 20 (by decide), ← e 21 (by decide), ← e 22 (by decide), ← e 23 (by decide), ← e 24 (by decide)]
    exact h2
  · unfold st5 at h3 ⊢
    rw [← e 7 (by decide)]
    exact h3
  · obtain ⟨B, R, A, E, W, H⟩ := h4
    refine ⟨B, R, A, E, W, fun m hm => ?_⟩
    rw [← e (9 + m) (by omega), ← e (13 + m) (by omega), ← e (17 + m) (by omega)]
    exact H m hm
  · obtain ⟨C, G, U, O, e1, hC, e2, hG, e8, H⟩ := h5
    refine ⟨C, G, U, O, by rw [← e 1 (by decide)]; exact e1, hC, by rw [← e 2 (by decide)]; exact e2, hG, by rw [← e 8 (by decide)]; exact e8, fun k hk => ?_⟩
    rw [← e (21 + k) (by omega)]
    exact H k hk
theorem inB_99 {x : Int32} (h : inB x 0 99 = true) : ∃ j, j ≤ 99 ∧ x = nI j := by
  obtain ⟨j, -, h2, h3⟩ := inB_ex (l := 0) (u := 99) (by decide) (by decide) h
  exact ⟨j, h2, h3⟩
def lwB (b : Nat → Int32) (k p q : Int32) : Nat → Int32 := gi [k, p, q, b 3, b 4, b 5, b 6, b 7, b 8, b 9, b 10, b 11, b 12, b 13, b 14, b 15, b 16, b 17, b 18, b 19, b 20, b 21, b 22, b 23, b 24, b 25, b 26, b 27]
theorem GM.lwB {M : Nat} {h b : Nat → Int32} (H : GM M h b) {k p q : Int32} (hk : inB k 0 2 = true) (hp : inB p 0 99 = true) (hq : inB q 0 99 = true) : GM M h (lwB b k p q) := by
  obtain ⟨⟨s1, s2⟩, h2, h3, h4, h5⟩ := H
  refine ⟨⟨s1, inB_kind hk⟩, h2, h3, ?_, ?_⟩
  · obtain ⟨B, R, A, E, W, H⟩ := h4
    refine ⟨B, R, A, E, W, fun m hm => ?_⟩
    match m, hm with
    | 0, _ => exact H 0 (by decide)
    | 1, _ => exact H 1 (by decide)
    | 2, _ => exact H 2 (by decide)
    | 3, _ => exact H 3 (by decide)
  · obtain ⟨C, G, U, O, e1, hC, e2, hG, e8, H⟩ := h5
    obtain ⟨i, hi, ei⟩ := inB_99 hp
    obtain ⟨j, hj, ej⟩ := inB_99 hq
    refine ⟨i, j, U, O, ei, hi, ej, hj, e8, fun k hk => ?_⟩
    match k, hk with
    | 0, _ => exact H 0 (by decide)
    | 1, _ => exact H 1 (by decide)
    | 2, _ => exact H 2 (by decide)
    | 3, _ => exact H 3 (by decide)
def thB (b : Nat → Int32) (w0 w1 w2 w3 : Int32) : Nat → Int32 := gi [b 0, b 1, b 2, b 3, b 4, b 5, b 6, b 7, b 8, b 9, b 10, b 11, b 12, b 13, b 14, b 15, b 16, w0, w1, w2, w3, b 21, b 22, b 23, b 24, b 25, b 26, b 27]
theorem GM.thB {M : Nat} {h b : Nat → Int32} (H : GM M h b) {w0 w1 w2 w3 : Int32} (e0 : inB w0 0 99 = true) (e1 : inB w1 0 99 = true) (e2 : inB w2 0 99 = true) (e3 : inB w3 0 99 = true) (d0 : h 0 ≤ 0 → w0 = 0) (d1 : h 0 ≤ 1 → w1 = 0) (d2 : h 0 ≤ 2 → w2 = 0) (d3 : h 0 ≤ 3 → w3 = 0) : GM M h (thB b w0 w1 w2 w3) := by
  obtain ⟨⟨s1, s2⟩, ⟨o0, o1, o2, o3⟩, h3, h4, h5⟩ := H
  refine ⟨⟨s1, s2⟩, ⟨fun q => ⟨d0 q, (o0 q).2⟩, fun q => ⟨d1 q, (o1 q).2⟩, fun q => ⟨d2 q, (o2 q).2⟩, fun q => ⟨d3 q, (o3 q).2⟩⟩, h3, ?_, ?_⟩
  · obtain ⟨B, R, A, E, W, H⟩ := h4
    obtain ⟨i0, k0, j0⟩ := inB_99 e0
    obtain ⟨i1, k1, j1⟩ := inB_99 e1
    obtain ⟨i2, k2, j2⟩ := inB_99 e2
    obtain ⟨i3, k3, j3⟩ := inB_99 e3
    refine ⟨B, R, A, E, gN4 i0 i1 i2 i3, fun m hm => ?_⟩
    match m, hm with
    | 0, _ => obtain ⟨a1, a2, a3, a4, a5, a6, v1, v2, v3, v4⟩ := H 0 (by decide); exact ⟨a1, a2, a3, a4, a5, j0, v1, k0, v3, v4⟩
    | 1, _ => obtain ⟨a1, a2, a3, a4, a5, a6, v1, v2, v3, v4⟩ := H 1 (by decide); exact ⟨a1, a2, a3, a4, a5, j1, v1, k1, v3, v4⟩
    | 2, _ => obtain ⟨a1, a2, a3, a4, a5, a6, v1, v2, v3, v4⟩ := H 2 (by decide); exact ⟨a1, a2, a3, a4, a5, j2, v1, k2, v3, v4⟩
    | 3, _ => obtain ⟨a1, a2, a3, a4, a5, a6, v1, v2, v3, v4⟩ := H 3 (by decide); exact ⟨a1, a2, a3, a4, a5, j3, v1, k3, v3, v4⟩
  · obtain ⟨C, G, U, O, e1, hC, e2, hG, e8, H⟩ := h5
    refine ⟨C, G, U, O, e1, hC, e2, hG, e8, fun k hk => ?_⟩
    match k, hk with
    | 0, _ => exact H 0 (by decide)
    | 1, _ => exact H 1 (by decide)
    | 2, _ => exact H 2 (by decide)
    | 3, _ => exact H 3 (by decide)
theorem GM.w99 {M : Nat} {h b : Nat → Int32} (H : GM M h b) {m : Nat} (hm : m < 4) : inB (b (17 + m)) 0 99 = true := by
  obtain ⟨B, R, A, E, W, H⟩ := H.2.2.2.1
  obtain ⟨a1, a2, a3, a4, a5, a6, v1, v2, v3, v4⟩ := H m hm
  rw [a6]
  exact inB_nI (u := 99) (by decide) v2
theorem GM_opn {h : Nat → Int32} (H : Hx h) : GM 0 h (opn h) := by
  refine ⟨opn_Bok H, Ow_opn H, Or.inl rfl, ?_, ?_⟩
  · obtain ⟨n, B, R, hn, h0, HH⟩ := Hx_Hg H
    obtain ⟨n2, hn2, h02, hw, hrest⟩ := H
    have hW : ∀ m, m < 4 → ∃ j, j ≤ 99 ∧ h (10 + m) = nI j := fun m hm => by
      obtain ⟨g1, g2⟩ := hw m hm
      by_cases q : m < n2
      · exact inB_99 (g1 q).2.2
      · exact ⟨0, by decide, (g2 (by omega)).2.2⟩
    obtain ⟨i0, k0, j0⟩ := hW 0 (by decide)
    obtain ⟨i1, k1, j1⟩ := hW 1 (by decide)
    obtain ⟨i2, k2, j2⟩ := hW 2 (by decide)
    obtain ⟨i3, k3, j3⟩ := hW 3 (by decide)
    have hBr : ∀ m, m < 4 → Br (B m) (R m) := fun m hm => by
      obtain ⟨a1, a2, a3, a4, a5⟩ := HH m hm
      refine ⟨a2, a4, ?_⟩
      by_cases q : m < n
      · exact Or.inl (a5 q).1
      · obtain ⟨z1, z2, z3⟩ := Hx_seat0 ⟨n2, hn2, h02, hw, hrest⟩ hm (by rw [h0]; exact nI_le (by omega) (by omega))
        exact Or.inr (by
          rw [a1] at z1
          exact (nI_eq (by omega) (by decide)).mp z1)
    refine ⟨B, R, B, fun _ => 0, gN4 i0 i1 i2 i3, fun m hm => ?_⟩
    obtain ⟨a1, a2, a3, a4, a5⟩ := HH m hm
    have hb := hBr m hm
    match m, hm with
    | 0, _ => exact ⟨a1, a3, hb, a1, rfl, j0, Nat.le_refl _, k0, fun q => q, fun _ => rfl⟩
    | 1, _ => exact ⟨a1, a3, hb, a1, rfl, j1, Nat.le_refl _, k1, fun q => q, fun _ => rfl⟩
    | 2, _ => exact ⟨a1, a3, hb, a1, rfl, j2, Nat.le_refl _, k2, fun q => q, fun _ => rfl⟩
    | 3, _ => exact ⟨a1, a3, hb, a1, rfl, j3, Nat.le_refl _, k3, fun q => q, fun _ => rfl⟩
  · obtain ⟨n2, -, -, -, g1, g2, g3, g4⟩ := H
    obtain ⟨i, hi, ei⟩ := inB_99 g2
    obtain ⟨j, hj, ej⟩ := inB_99 g3
    refine ⟨i, j, 0, fun _ => 0, ei, hi, ej, hj, rfl, fun k hk => ?_⟩
    match k, hk with
    | 0, _ => exact ⟨rfl, Nat.le_refl _⟩
    | 1, _ => exact ⟨rfl, Nat.le_refl _⟩
    | 2, _ => exact ⟨rfl, Nat.le_refl _⟩
    | 3, _ => exact ⟨rfl, Nat.le_refl _⟩
