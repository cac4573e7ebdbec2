theorem rkS_1 {ty : List Int32} {t : Nat} {q : Nat × Int32 × Int32} : (rkS ty t q).1 = skq ty t 97 122 (skq ty t 32 32 q.1) := by
  unfold rkS
  cases kdB ty (skq ty t 32 32 q.1) (skq ty t 97 122 (skq ty t 32 32 q.1)) <;> rfl
theorem gi_sif {l : List Int32} {p k : Nat} {v : Int32} (h : k < l.length) : gi (l.set p v) k = bif Nat.beq p k then v else gi l k := by
  cases hb : Nat.beq p k with
  | true => rw [Nat.eq_of_beq_eq_true hb, gi_set_eq h]; rfl
  | false => rw [gi_set_ne (fun e => by rw [e, Nat.beq_refl] at hb; cases hb)]; rfl
theorem stD_0 {h : Nat → Int32} {v1 v2 v3 : Int32} {k : Nat} (hk : k < 14) : (bif Nat.beq 10 k then v3 else bif Nat.beq 6 k then v2 else bif Nat.beq 2 k then v1 else bif Nat.beq 0 k then (0 : Int32) + 1 else h k) = stH h 0 v1 v2 v3 k := by
  match k, hk with
  | 0, _ => exact rfl
  | 1, _ => exact rfl
  | 2, _ => exact rfl
  | 3, _ => exact rfl
  | 4, _ => exact rfl
  | 5, _ => exact rfl
  | 6, _ => exact rfl
  | 7, _ => exact rfl
  | 8, _ => exact rfl
  | 9, _ => exact rfl
  | 10, _ => exact rfl
  | 11, _ => exact rfl
  | 12, _ => exact rfl
  | 13, _ => exact rfl
theorem stD_1 {h : Nat → Int32} {v1 v2 v3 : Int32} {k : Nat} (hk : k < 14) : (bif Nat.beq 11 k then v3 else bif Nat.beq 7 k then v2 else bif Nat.beq 3 k then v1 else bif Nat.beq 0 k then (1 : Int32) + 1 else h k) = stH h 1 v1 v2 v3 k := by
  match k, hk with
  | 0, _ => exact rfl
  | 1, _ => exact rfl
  | 2, _ => exact rfl
  | 3, _ => exact rfl
  | 4, _ => exact rfl
  | 5, _ => exact rfl
  | 6, _ => exact rfl
  | 7, _ => exact rfl
  | 8, _ => exact rfl
  | 9, _ => exact rfl
  | 10, _ => exact rfl
  | 11, _ => exact rfl
  | 12, _ => exact rfl
  | 13, _ => exact rfl
theorem stD_2 {h : Nat → Int32} {v1 v2 v3 : Int32} {k : Nat} (hk : k < 14) : (bif Nat.beq 12 k then v3 else bif Nat.beq 8 k then v2 else bif Nat.beq 4 k then v1 else bif Nat.beq 0 k then (2 : Int32) + 1 else h k) = stH h 2 v1 v2 v3 k := by
  match k, hk with
  | 0, _ => exact rfl
  | 1, _ => exact rfl
  | 2, _ => exact rfl
  | 3, _ => exact rfl
  | 4, _ => exact rfl
  | 5, _ => exact rfl
  | 6, _ => exact rfl
  | 7, _ => exact rfl
  | 8, _ => exact rfl
  | 9, _ => exact rfl
  | 10, _ => exact rfl
  | 11, _ => exact rfl
  | 12, _ => exact rfl
  | 13, _ => exact rfl
theorem stD_3 {h : Nat → Int32} {v1 v2 v3 : Int32} {k : Nat} (hk : k < 14) : (bif Nat.beq 13 k then v3 else bif Nat.beq 9 k then v2 else bif Nat.beq 5 k then v1 else bif Nat.beq 0 k then (3 : Int32) + 1 else h k) = stH h 3 v1 v2 v3 k := by
  match k, hk with
  | 0, _ => exact rfl
  | 1, _ => exact rfl
  | 2, _ => exact rfl
  | 3, _ => exact rfl
  | 4, _ => exact rfl
  | 5, _ => exact rfl
  | 6, _ => exact rfl
  | 7, _ => exact rfl
  | 8, _ => exact rfl
  | 9, _ => exact rfl
  | 10, _ => exact rfl
  | 11, _ => exact rfl
  | 12, _ => exact rfl
  | 13, _ => exact rfl
theorem cgD {h : Nat → Int32} {v : Int32} {k : Nat} (hk : k < 14) : (bif Nat.beq 1 k then v else h k) = hcg h v k := by
  match k, hk with
  | 0, _ => exact rfl
  | 1, _ => exact rfl
  | 2, _ => exact rfl
  | 3, _ => exact rfl
  | 4, _ => exact rfl
  | 5, _ => exact rfl
  | 6, _ => exact rfl
  | 7, _ => exact rfl
  | 8, _ => exact rfl
  | 9, _ => exact rfl
  | 10, _ => exact rfl
  | 11, _ => exact rfl
  | 12, _ => exact rfl
  | 13, _ => exact rfl
theorem hlw_lo {h : Nat → Int32} {x y z : Int32} {k : Nat} (hk : k < 14) : hlw h x y z k = h k := by
  match k, hk with
  | 0, _ => exact rfl
  | 1, _ => exact rfl
  | 2, _ => exact rfl
  | 3, _ => exact rfl
  | 4, _ => exact rfl
  | 5, _ => exact rfl
  | 6, _ => exact rfl
  | 7, _ => exact rfl
  | 8, _ => exact rfl
  | 9, _ => exact rfl
  | 10, _ => exact rfl
  | 11, _ => exact rfl
  | 12, _ => exact rfl
  | 13, _ => exact rfl
theorem laH_lo {ty : List Int32} {t s : Nat} {lt : Int32} {q : Nat × Int32 × Int32} {h : Nat → Int32} {k : Nat} (hk : k < 14) : laH ty t s lt q h k = h k := by
  unfold laH
  exact hlw_lo hk
theorem stH_hi {h : Nat → Int32} {m k : Nat} {x y z : Int32} (hm : m < 4) (hk : 14 ≤ k) : stH h m x y z k = h k := by
  have b : ∀ j, j < 14 → Nat.beq k j = false := fun j hj => by
    cases hb : Nat.beq k j with
    | false => rfl
    | true => have := Nat.eq_of_beq_eq_true hb; omega
  unfold stH
  rw [b 0 (by decide), b (2 + m) (by omega), b (6 + m) (by omega), b (10 + m) (by omega)]
  rfl
theorem seatH_hi {h : Nat → Int32} {k : Nat} {x y z : Int32} (hk : 14 ≤ k) : seatH h x y z k = h k := by
  unfold seatH
  by_cases h0 : h 0 = 0
  · rw [if_pos h0]; exact stH_hi (by decide) hk
  · by_cases h1 : h 0 = 1
    · rw [if_neg h0, if_pos h1]; exact stH_hi (by decide) hk
    · by_cases h2 : h 0 = 2
      · rw [if_neg h0, if_neg h1, if_pos h2]; exact stH_hi (by decide) hk
      · by_cases h3 : h 0 = 3
        · rw [if_neg h0, if_neg h1, if_neg h2, if_pos h3]; exact stH_hi (by decide) hk
        · rw [if_neg h0, if_neg h1, if_neg h2, if_neg h3]
theorem meH_hi {ty : List Int32} {t s : Nat} {q : Nat × Int32 × Int32} {h : Nat → Int32} {k : Nat} (hk : 14 ≤ k) (_ : True) : meH ty t s q h k = h k := by
  unfold meH
  by_cases h0 : (meS ty t s q h).2.2 = 0
  · rw [if_pos h0]; exact seatH_hi hk
  · rw [if_neg h0]
theorem c_mmem (z : Nat → Int32) (tx ty : List Int32) (htx : tx.length = 400) (t : Nat) (ht : t ≤ 400) (hT : tyR tx ty t) (a : Nat) (so : Int32) (s sz : Nat) (fa ru co : Int32) (ha : a ≤ t) (hs9 : s ≤ t) (dl : List Int32) (hdl : dl.length = 14) (h : Nat → Int32) (hd : ∀ k, k < 14 → gi dl k = h k) (hm : h 0 = 0 ∨ h 0 = 1 ∨ h 0 = 2 ∨ h 0 = 3 ∨ h 0 = 4) : Ctr mk_X7_readsMember 5 [.ref 500] [(500, mP z t a so s sz fa ru co), (501, .inr (.inl (0, tx))), (503, .inr (.inl (0, dl)))] (fun r u => ∃ (a' : Nat) (so' : Int32) (s' sz' : Nat) (fa' : Int32) (dl' : List Int32), dl'.length = 14 ∧ s' ≤ t ∧ ((meS ty t s (a, (-1 : Int32), (0 : Int32)) h).2.2 = 0 → a' = (meS ty t s (a, (-1 : Int32), (0 : Int32)) h).1 ∧ fa' = fa ∧ (∀ k, k < 14 → gi dl' k = meH ty t s (a, (-1 : Int32), (0 : Int32)) h k)) ∧ (¬ (meS ty t s (a, (-1 : Int32), (0 : Int32)) h).2.2 = 0 → fa' = (meS ty t s (a, (-1 : Int32), (0 : Int32)) h).2.2 ∧ nI s' = (meS ty t s (a, (-1 : Int32), (0 : Int32)) h).2.1) ∧ r = some (.int (b2i (decide ((meS ty t s (a, (-1 : Int32), (0 : Int32)) h).2.2 = 0)))) ∧ u = [(500, mP z t a' so' s' sz' fa' ru co), (501, .inr (.inl (0, tx))), (503, .inr (.inl (0, dl')))]) := by
  have e4 : ∀ m : Int32, h 0 = m → m < 4 → q0S (decide (h 0 < 4)) s (a, (-1 : Int32), (0 : Int32)) = (a, (-1 : Int32), (0 : Int32)) := fun m e l => by rw [e, decide_eq_true l]; rfl
  rcases hm with hm | hm | hm | hm | hm
  · have eS : meS ty t s (a, (-1 : Int32), (0 : Int32)) h = (reS ty t (rnS ty t 0 99 (rnS ty t 1 3 (rnS ty t 1 4 (a, (-1 : Int32), (0 : Int32)))))) := by unfold meS; rw [e4 0 hm (by decide)]
    have eH : (reS ty t (rnS ty t 0 99 (rnS ty t 1 3 (rnS ty t 1 4 (a, (-1 : Int32), (0 : Int32)))))).2.2 = 0 → meH ty t s (a, (-1 : Int32), (0 : Int32)) h = stH h 0 (rnv ty t a) (rnv ty t (skq ty t 48 57 (skq ty t 32 32 a))) (rnv ty t (skq ty t 48 57 (skq ty t 32 32 (skq ty t 48 57 (skq ty t 32 32 a))))) := by
      intro h0
      unfold meH
      rw [eS, if_pos h0, e4 0 hm (by decide)]
      unfold seatH
      rw [if_pos hm]
      rfl
    refine Ctr.imp (c_mme0 z tx ty htx t ht hT a so s sz fa ru co ha hs9 dl hdl ((hd 0 (by decide)).trans hm)) ?_
    rintro r u ⟨a', so', s', sz', fa', dl', g1, g2, g3, g4, g5, g6⟩
    rw [eS]
    refine ⟨a', so', s', sz', fa', dl', g1, g2, fun h0 => ?_, g4, g5, g6⟩
    obtain ⟨k1, k2, k3⟩ := g3 h0
    refine ⟨k1, k2, fun k hk => ?_⟩
    rw [k3, eH h0, gi_sif (by simp only [List.length_set, hdl]; exact hk), gi_sif (by simp only [List.length_set, hdl]; exact hk), gi_sif (by simp only [List.length_set, hdl]; exact hk), gi_sif (by rw [hdl]; exact hk), hd k hk, hd 0 (by decide), hm]
    exact stD_0 hk
  · have eS : meS ty t s (a, (-1 : Int32), (0 : Int32)) h = (reS ty t (rnS ty t 0 99 (rnS ty t 1 3 (rnS ty t 1 4 (a, (-1 : Int32), (0 : Int32)))))) := by unfold meS; rw [e4 1 hm (by decide)]
    have eH : (reS ty t (rnS ty t 0 99 (rnS ty t 1 3 (rnS ty t 1 4 (a, (-1 : Int32), (0 : Int32)))))).2.2 = 0 → meH ty t s (a, (-1 : Int32), (0 : Int32)) h = stH h 1 (rnv ty t a) (rnv ty t (skq ty t 48 57 (skq ty t 32 32 a))) (rnv ty t (skq ty t 48 57 (skq ty t 32 32 (skq ty t 48 57 (skq ty t 32 32 a))))) := by
      intro h0
      unfold meH
      rw [eS, if_pos h0, e4 1 hm (by decide)]
      unfold seatH
      rw [if_neg (show ¬ h 0 = 0 from by rw [hm]; decide), if_pos hm]
      rfl
    refine Ctr.imp (c_mme1 z tx ty htx t ht hT a so s sz fa ru co ha hs9 dl hdl ((hd 0 (by decide)).trans hm)) ?_
    rintro r u ⟨a', so', s', sz', fa', dl', g1, g2, g3, g4, g5, g6⟩
    rw [eS]
    refine ⟨a', so', s', sz', fa', dl', g1, g2, fun h0 => ?_, g4, g5, g6⟩
    obtain ⟨k1, k2, k3⟩ := g3 h0
    refine ⟨k1, k2, fun k hk => ?_⟩
    rw [k3, eH h0, gi_sif (by simp only [List.length_set, hdl]; exact hk), gi_sif (by simp only [List.length_set, hdl]; exact hk), gi_sif (by simp only [List.length_set, hdl]; exact hk), gi_sif (by rw [hdl]; exact hk), hd k hk, hd 0 (by decide), hm]
    exact stD_1 hk
  · have eS : meS ty t s (a, (-1 : Int32), (0 : Int32)) h = (reS ty t (rnS ty t 0 99 (rnS ty t 1 3 (rnS ty t 1 4 (a, (-1 : Int32), (0 : Int32)))))) := by unfold meS; rw [e4 2 hm (by decide)]
    have eH : (reS ty t (rnS ty t 0 99 (rnS ty t 1 3 (rnS ty t 1 4 (a, (-1 : Int32), (0 : Int32)))))).2.2 = 0 → meH ty t s (a, (-1 : Int32), (0 : Int32)) h = stH h 2 (rnv ty t a) (rnv ty t (skq ty t 48 57 (skq ty t 32 32 a))) (rnv ty t (skq ty t 48 57 (skq ty t 32 32 (skq ty t 48 57 (skq ty t 32 32 a))))) := by
      intro h0
      unfold meH
      rw [eS, if_pos h0, e4 2 hm (by decide)]
      unfold seatH
      rw [if_neg (show ¬ h 0 = 0 from by rw [hm]; decide), if_neg (show ¬ h 0 = 1 from by rw [hm]; decide), if_pos hm]
      rfl
    refine Ctr.imp (c_mme2 z tx ty htx t ht hT a so s sz fa ru co ha hs9 dl hdl ((hd 0 (by decide)).trans hm)) ?_
    rintro r u ⟨a', so', s', sz', fa', dl', g1, g2, g3, g4, g5, g6⟩
    rw [eS]
    refine ⟨a', so', s', sz', fa', dl', g1, g2, fun h0 => ?_, g4, g5, g6⟩
    obtain ⟨k1, k2, k3⟩ := g3 h0
    refine ⟨k1, k2, fun k hk => ?_⟩
    rw [k3, eH h0, gi_sif (by simp only [List.length_set, hdl]; exact hk), gi_sif (by simp only [List.length_set, hdl]; exact hk), gi_sif (by simp only [List.length_set, hdl]; exact hk), gi_sif (by rw [hdl]; exact hk), hd k hk, hd 0 (by decide), hm]
    exact stD_2 hk
  · have eS : meS ty t s (a, (-1 : Int32), (0 : Int32)) h = (reS ty t (rnS ty t 0 99 (rnS ty t 1 3 (rnS ty t 1 4 (a, (-1 : Int32), (0 : Int32)))))) := by unfold meS; rw [e4 3 hm (by decide)]
    have eH : (reS ty t (rnS ty t 0 99 (rnS ty t 1 3 (rnS ty t 1 4 (a, (-1 : Int32), (0 : Int32)))))).2.2 = 0 → meH ty t s (a, (-1 : Int32), (0 : Int32)) h = stH h 3 (rnv ty t a) (rnv ty t (skq ty t 48 57 (skq ty t 32 32 a))) (rnv ty t (skq ty t 48 57 (skq ty t 32 32 (skq ty t 48 57 (skq ty t 32 32 a))))) := by
      intro h0
      unfold meH
      rw [eS, if_pos h0, e4 3 hm (by decide)]
      unfold seatH
      rw [if_neg (show ¬ h 0 = 0 from by rw [hm]; decide), if_neg (show ¬ h 0 = 1 from by rw [hm]; decide), if_neg (show ¬ h 0 = 2 from by rw [hm]; decide), if_pos hm]
      rfl
    refine Ctr.imp (c_mme3 z tx ty htx t ht hT a so s sz fa ru co ha hs9 dl hdl ((hd 0 (by decide)).trans hm)) ?_
    rintro r u ⟨a', so', s', sz', fa', dl', g1, g2, g3, g4, g5, g6⟩
    rw [eS]
    refine ⟨a', so', s', sz', fa', dl', g1, g2, fun h0 => ?_, g4, g5, g6⟩
    obtain ⟨k1, k2, k3⟩ := g3 h0
    refine ⟨k1, k2, fun k hk => ?_⟩
    rw [k3, eH h0, gi_sif (by simp only [List.length_set, hdl]; exact hk), gi_sif (by simp only [List.length_set, hdl]; exact hk), gi_sif (by simp only [List.length_set, hdl]; exact hk), gi_sif (by rw [hdl]; exact hk), hd k hk, hd 0 (by decide), hm]
    exact stD_3 hk
  · have eS : meS ty t s (a, (-1 : Int32), (0 : Int32)) h = (reS ty t (rnS ty t 0 99 (rnS ty t 1 3 (rnS ty t 1 4 (blS 3 s (a, (-1 : Int32), (0 : Int32))))))) := by unfold meS; rw [hm]; rfl
    have nQ : ¬ (reS ty t (rnS ty t 0 99 (rnS ty t 1 3 (rnS ty t 1 4 (blS 3 s (a, (-1 : Int32), (0 : Int32))))))).2.2 = 0 := reS_nz (rnS_nz (rnS_nz (rnS_nz (blS_nz (by decide)))))
    refine Ctr.imp (c_mme4 z tx ty htx t ht hT a so s sz fa ru co ha hs9 dl hdl ((hd 0 (by decide)).trans hm)) ?_
    rintro r u ⟨a', so', s', sz', fa', dl', g1, g2, g3, g4, g5, g6⟩
    rw [eS]
    exact ⟨a', so', s', sz', fa', dl', g1, g2, fun h0 => absurd h0 nQ, g4, g5, g6⟩
theorem c_mcog (z : Nat → Int32) (tx ty : List Int32) (htx : tx.length = 400) (t : Nat) (ht : t ≤ 400) (hT : tyR tx ty t) (a : Nat) (so : Int32) (s sz : Nat) (fa ru co : Int32) (ha : a ≤ t) (hs9 : s ≤ t) (dl : List Int32) (hdl : dl.length = 14) (h : Nat → Int32) (hd : ∀ k, k < 14 → gi dl k = h k) (hct : co = 0 ∨ co = 1) : Ctr mk_X7_readsCough 5 [.ref 500] [(500, mP z t a so s sz fa ru co), (501, .inr (.inl (0, tx))), (503, .inr (.inl (0, dl)))] (fun r u => ∃ (a' : Nat) (so' : Int32) (s' sz' : Nat) (fa' : Int32) (dl' : List Int32), dl'.length = 14 ∧ s' ≤ t ∧ ((coS ty t s co (a, (-1 : Int32), (0 : Int32))).2.2 = 0 → a' = (coS ty t s co (a, (-1 : Int32), (0 : Int32))).1 ∧ fa' = fa ∧ (∀ k, k < 14 → gi dl' k = coH ty t s co (a, (-1 : Int32), (0 : Int32)) h k)) ∧ (¬ (coS ty t s co (a, (-1 : Int32), (0 : Int32))).2.2 = 0 → fa' = (coS ty t s co (a, (-1 : Int32), (0 : Int32))).2.2 ∧ nI s' = (coS ty t s co (a, (-1 : Int32), (0 : Int32))).2.1) ∧ r = some (.int (b2i (decide ((coS ty t s co (a, (-1 : Int32), (0 : Int32))).2.2 = 0)))) ∧ u = [(500, mP z t a' so' s' sz' fa' ru 1), (501, .inr (.inl (0, tx))), (503, .inr (.inl (0, dl')))]) := by
  rcases hct with rfl | rfl
  · refine Ctr.imp (c_mco0 z tx ty htx t ht hT a so s sz fa ru ha hs9 dl hdl) ?_
    rintro r u ⟨a', so', s', sz', fa', dl', g1, g2, g3, g4, g5, g6⟩
    have eS : coS ty t s 0 (a, (-1 : Int32), (0 : Int32)) = reS ty t (rnS ty t 0 100 (a, (-1 : Int32), (0 : Int32))) := by unfold coS; rw [show decide ((0 : Int32) = 0) = true from by decide]; rfl
    rw [eS]
    refine ⟨a', so', s', sz', fa', dl', g1, g2, fun h0 => ?_, g4, g5, g6⟩
    obtain ⟨k1, k2, k3⟩ := g3 h0
    refine ⟨k1, k2, fun k hk => ?_⟩
    rw [k3, gi_sif (by rw [hdl]; exact hk), hd k hk, cgD hk]
    unfold coH
    rw [show decide ((0 : Int32) = 0) = true from by decide]
    rfl
  · refine Ctr.imp (c_mco1 z tx ty htx t ht hT a so s sz fa ru ha hs9 dl hdl) ?_
    rintro r u ⟨a', so', s', sz', fa', dl', g1, g2, g3, g4, g5, g6⟩
    have eS : coS ty t s 1 (a, (-1 : Int32), (0 : Int32)) = reS ty t (rnS ty t 0 100 (blS 3 s (a, (-1 : Int32), (0 : Int32)))) := by unfold coS; rw [show decide ((1 : Int32) = 0) = false from by decide]; rfl
    rw [eS]
    refine ⟨a', so', s', sz', fa', dl', g1, g2, fun h0 => ?_, g4, g5, g6⟩
    obtain ⟨k1, k2, k3⟩ := g3 h0
    refine ⟨k1, k2, fun k hk => ?_⟩
    rw [k3, gi_sif (by rw [hdl]; exact hk), hd k hk, cgD hk]
    unfold coH
    rw [show decide ((1 : Int32) = 0) = false from by decide]
    rfl
theorem c_mlaw' (z : Nat → Int32) (tx ty : List Int32) (htx : tx.length = 400) (t : Nat) (ht : t ≤ 400) (hT : tyR tx ty t) (a : Nat) (so : Int32) (s sz : Nat) (fa ru co : Int32) (ha : a ≤ t) (hs9 : s ≤ t) (h : Nat → Int32) (hlt : ru = 0 ∨ ru = 1) : Ctr mk_X7_readsLaw 5 [.ref 500] [(500, mP z t a so s sz fa ru co), (501, .inr (.inl (0, tx))), (504, .inr (.inl (0, [h 14, h 15, h 16])))] (fun r u => ∃ (a' : Nat) (so' : Int32) (s' sz' : Nat) (fa' : Int32) (x0' x1' x2' : Int32), s' ≤ t ∧ ((laS ty t s ru (a, (-1 : Int32), (0 : Int32))).2.2 = 0 → a' = (laS ty t s ru (a, (-1 : Int32), (0 : Int32))).1 ∧ fa' = fa ∧ x0' = laH ty t s ru (a, (-1 : Int32), (0 : Int32)) h 14 ∧ x1' = laH ty t s ru (a, (-1 : Int32), (0 : Int32)) h 15 ∧ x2' = laH ty t s ru (a, (-1 : Int32), (0 : Int32)) h 16) ∧ (¬ (laS ty t s ru (a, (-1 : Int32), (0 : Int32))).2.2 = 0 → fa' = (laS ty t s ru (a, (-1 : Int32), (0 : Int32))).2.2 ∧ nI s' = (laS ty t s ru (a, (-1 : Int32), (0 : Int32))).2.1) ∧ r = some (.int (b2i (decide ((laS ty t s ru (a, (-1 : Int32), (0 : Int32))).2.2 = 0)))) ∧ u = [(500, mP z t a' so' s' sz' fa' 1 co), (501, .inr (.inl (0, tx))), (504, .inr (.inl (0, [x0', x1', x2'])))]) := by
  rcases hlt with rfl | rfl
  · refine Ctr.imp (c_mla0 z tx ty htx t ht hT a so s sz fa co ha hs9 (h 14) (h 15) (h 16)) ?_
    rintro r u ⟨a', so', s', sz', fa', x0', x1', x2', g2, g3, g4, g5, g6⟩
    have eD : decide ((0 : Int32) = 0) = true := by decide
    have eS : laS ty t s 0 (a, (-1 : Int32), (0 : Int32)) = reS ty t (rnS ty t 0 99 (rnS ty t 0 99 (rkS ty t (a, (-1 : Int32), (0 : Int32))))) := by unfold laS; rw [eD]; rfl
    have kA : (rkS ty t (a, (-1 : Int32), (0 : Int32))).1 = skq ty t 97 122 (skq ty t 32 32 a) := rkS_1
    have e0 : laH ty t s 0 (a, (-1 : Int32), (0 : Int32)) h 14 = rkv ty t a := by unfold laH; rw [eD]; rfl
    have e1 : laH ty t s 0 (a, (-1 : Int32), (0 : Int32)) h 15 = rnv ty t (skq ty t 97 122 (skq ty t 32 32 a)) := by rw [← kA]; unfold laH; rw [eD]; rfl
    have e2 : laH ty t s 0 (a, (-1 : Int32), (0 : Int32)) h 16 = rnv ty t (skq ty t 48 57 (skq ty t 32 32 (skq ty t 97 122 (skq ty t 32 32 a)))) := by rw [← kA]; unfold laH; rw [eD]; rfl
    rw [eS, e0, e1, e2]
    exact ⟨a', so', s', sz', fa', x0', x1', x2', g2, g3, g4, g5, g6⟩
  · refine Ctr.imp (c_mla1 z tx ty htx t ht hT a so s sz fa co ha hs9 (h 14) (h 15) (h 16)) ?_
    rintro r u ⟨a', so', s', sz', fa', x0', x1', x2', g2, g3, g4, g5, g6⟩
    have eD : decide ((1 : Int32) = 0) = false := by decide
    have eS : laS ty t s 1 (a, (-1 : Int32), (0 : Int32)) = reS ty t (rnS ty t 0 99 (rnS ty t 0 99 (rkS ty t (blS 3 s (a, (-1 : Int32), (0 : Int32)))))) := by unfold laS; rw [eD]; rfl
    have kA : (rkS ty t (blS 3 s (a, (-1 : Int32), (0 : Int32)))).1 = skq ty t 97 122 (skq ty t 32 32 a) := rkS_1
    have e0 : laH ty t s 1 (a, (-1 : Int32), (0 : Int32)) h 14 = rkv ty t a := by unfold laH; rw [eD]; rfl
    have e1 : laH ty t s 1 (a, (-1 : Int32), (0 : Int32)) h 15 = rnv ty t (skq ty t 97 122 (skq ty t 32 32 a)) := by rw [← kA]; unfold laH; rw [eD]; rfl
    have e2 : laH ty t s 1 (a, (-1 : Int32), (0 : Int32)) h 16 = rnv ty t (skq ty t 48 57 (skq ty t 32 32 (skq ty t 97 122 (skq ty t 32 32 a)))) := by rw [← kA]; unfold laH; rw [eD]; rfl
    rw [eS, e0, e1, e2]
    exact ⟨a', so', s', sz', fa', x0', x1', x2', g2, g3, g4, g5, g6⟩
set_option maxHeartbeats 4000000 in
set_option maxRecDepth 100000 in
theorem c_mcl (z : Nat → Int32) (tx ty : List Int32) (htx : tx.length = 400) (t : Nat) (ht : t ≤ 400) (hT : tyR tx ty t) (s : Nat) (fa ru co : Int32) (hs9 : s ≤ t) (dl : List Int32) (hdl : dl.length = 14) (h : Nat → Int32) (hd : ∀ k, k < 14 → gi dl k = h k) (hm : h 0 = 0 ∨ h 0 = 1 ∨ h 0 = 2 ∨ h 0 = 3 ∨ h 0 = 4) (hlt : ru = 0 ∨ ru = 1) (hct : co = 0 ∨ co = 1) : Ctr mk_X7_readsClause 6 [.ref 500] [(500, mP z t (tke ty t s) (tso ty t s) s (tke ty t s - s) fa ru co), (501, .inr (.inl (0, tx))), (503, .inr (.inl (0, dl))), (504, .inr (.inl (0, [h 14, h 15, h 16])))] (fun r u => ∃ (a' : Nat) (so' : Int32) (s' sz' : Nat) (fa' ru' co' : Int32) (dl' : List Int32) (x0' x1' x2' : Int32), dl'.length = 14 ∧ s' ≤ t ∧ ((clS ty t ((s, (-1 : Int32), (0 : Int32)), (ru, co), h)).1.2.2 = 0 → a' = (clS ty t ((s, (-1 : Int32), (0 : Int32)), (ru, co), h)).1.1 ∧ fa' = fa ∧ ru' = (clS ty t ((s, (-1 : Int32), (0 : Int32)), (ru, co), h)).2.1.1 ∧ co' = (clS ty t ((s, (-1 : Int32), (0 : Int32)), (ru, co), h)).2.1.2 ∧ (∀ k, k < 14 → gi dl' k = (clS ty t ((s, (-1 : Int32), (0 : Int32)), (ru, co), h)).2.2 k) ∧ x0' = (clS ty t ((s, (-1 : Int32), (0 : Int32)), (ru, co), h)).2.2 14 ∧ x1' = (clS ty t ((s, (-1 : Int32), (0 : Int32)), (ru, co), h)).2.2 15 ∧ x2' = (clS ty t ((s, (-1 : Int32), (0 : Int32)), (ru, co), h)).2.2 16) ∧ (¬ (clS ty t ((s, (-1 : Int32), (0 : Int32)), (ru, co), h)).1.2.2 = 0 → fa' = (clS ty t ((s, (-1 : Int32), (0 : Int32)), (ru, co), h)).1.2.2 ∧ nI s' = (clS ty t ((s, (-1 : Int32), (0 : Int32)), (ru, co), h)).1.2.1) ∧ r = some (.int (b2i (decide ((clS ty t ((s, (-1 : Int32), (0 : Int32)), (ru, co), h)).1.2.2 = 0)))) ∧ u = [(500, mP z t a' so' s' sz' fa' ru' co'), (501, .inr (.inl (0, tx))), (503, .inr (.inl (0, dl'))), (504, .inr (.inl (0, [x0', x1', x2'])))]) := by
  refine Ctr.of rfl (Nat.le_of_ble_eq_true rfl) ?_
  intro x ad F hJ hR
  have hte9 : tke ty t s ≤ t := tke_le hs9
  have htg9 : s ≤ tke ty t s := tke_ge
  refine J.run (sn_X7_readsClause F) 1 [] (S' := (1, [(0, .ref 500)], [.ref 500], [(500, mP z t (tke ty t s) (tso ty t s) s (tke ty t s - s) fa ru co), (501, .inr (.inl (0, tx))), (503, .inr (.inl (0, dl))), (504, .inr (.inl (0, [h 14, h 15, h 16])))])) (ob := []) rfl (ob_n) ?_
  refine J.callV F hJ lk_X7_119 im_X7_word se_X7_word (by decide +kernel) (c_word z tx ty htx t ht hT (tke ty t s) (tso ty t s) s (tke ty t s - s) fa ru co (by omega)) (fun k => k) (by decide) [] rfl rfl rfl rfl rfl (by decide +kernel) rfl (show List.Nodup [500, 501] by decide +kernel) (fun r ws' hk hp => ?_)
  obtain ⟨rfl, rfl⟩ := hp
  show J x 3 (ad, 0, 0) (4, [(0, .ref 500)], [.long (wrI tx t (tso ty t s) s (tke ty t s - s))], [(500, mP z t (tke ty t s) (tso ty t s) s (tke ty t s - s) fa ru co), (501, .inr (.inl (0, tx))), (503, .inr (.inl (0, dl))), (504, .inr (.inl (0, [h 14, h 15, h 16])))])
  refine J.run (sn_X7_readsClause F) 1 [] (S' := (5, [(0, .ref 500), (1, .long (wrI tx t (tso ty t s) s (tke ty t s - s)))], [], [(500, mP z t (tke ty t s) (tso ty t s) s (tke ty t s - s) fa ru co), (501, .inr (.inl (0, tx))), (503, .inr (.inl (0, dl))), (504, .inr (.inl (0, [h 14, h 15, h 16])))])) (ob := []) rfl (ob_n) ?_
  cases hw0 : wdB ty s (skq ty t 97 122 s) 0
  · skip
    cases hw1 : wdB ty s (skq ty t 97 122 s) 1
    · skip
      cases hw2 : wdB ty s (skq ty t 97 122 s) 2
      · skip
        rw [(clS_3 (ty := ty) (t := t) (a := s) (pl := -1) (fd := 0) (lt := ru) (ct := co) (h := h) hw0 hw1 hw2)] at hR
        dsimp only at hR
        refine J.run (sn_X7_readsClause F) 10 [1, 1] (S' := (39, [(0, .ref 500), (1, .long (wrI tx t (tso ty t s) s (tke ty t s - s)))], [.long 427071727464, .long (wrI tx t (tso ty t s) s (tke ty t s - s))], [(500, mP z t (tke ty t s) (tso ty t s) s (tke ty t s - s) fa ru co), (501, .inr (.inl (0, tx))), (503, .inr (.inl (0, dl))), (504, .inr (.inl (0, [h 14, h 15, h 16])))])) (ob := [¬ (lg_cmp (wrI tx t (tso ty t s) s (tke ty t s - s)) 120282394289522) = 0, ¬ (lg_cmp (wrI tx t (tso ty t s) s (tke ty t s - s)) 7102839) = 0]) rfl (ob_c (of_decide_eq_false ((wrk_0 hT hs9).trans hw0)) (ob_c (of_decide_eq_false ((wrk_1 hT hs9).trans hw1)) ob_n)) ?_
        refine J.run (sn_X7_readsClause F) 4 [1] (S' := (52, [(0, .ref 500), (1, .long (wrI tx t (tso ty t s) s (tke ty t s - s)))], [.int 1, .ref 500], [(500, mP z t (tke ty t s) (tso ty t s) s (tke ty t s - s) fa ru co), (501, .inr (.inl (0, tx))), (503, .inr (.inl (0, dl))), (504, .inr (.inl (0, [h 14, h 15, h 16])))])) (ob := [¬ (lg_cmp (wrI tx t (tso ty t s) s (tke ty t s - s)) 427071727464) = 0]) rfl (ob_c (of_decide_eq_false ((wrk_2 hT hs9).trans hw2)) ob_n) ?_
        refine J.callV F hJ lk_X7_104 im_X7_wrong se_X7_wrong (by decide +kernel) (c_wrong z t (tke ty t s) (tso ty t s) s (tke ty t s - s) fa ru co 1) (fun k => k) (by omega) [] rfl rfl rfl rfl rfl (by decide +kernel) rfl (show List.Nodup [500] by decide +kernel) (fun r ws' hk hp => ?_)
        obtain ⟨rfl, rfl⟩ := hp
        show J x 3 (ad, 0, 0) (55, [(0, .ref 500), (1, .long (wrI tx t (tso ty t s) s (tke ty t s - s)))], [.int 0], [(500, mP z t (tke ty t s) (tso ty t s) s (tke ty t s - s) 1 ru co), (501, .inr (.inl (0, tx))), (503, .inr (.inl (0, dl))), (504, .inr (.inl (0, [h 14, h 15, h 16])))])
        exact J.iret F hR (Nat.le_refl _) (Nat.le_refl _) rfl rfl (by decide +kernel) ⟨rfl, keq [500, 501, 503, 504] rfl rfl, (tke ty t s), (tso ty t s), s, (tke ty t s - s), 1, ru, co, dl, (h 14), (h 15), (h 16), hdl, hs9, (fun h0 => absurd h0 (by show ¬ bF 0 1 = 0; decide)), (fun _ => ⟨rfl, rfl⟩), rfl, rfl⟩
      · skip
        obtain ⟨htk, hso1⟩ := wdB_let hs9 (by decide) hw2
        rw [htk]
        have hE5 : (skq ty t 97 122 s) ≤ t := skq_le hs9
        rw [(clS_2 (ty := ty) (t := t) (a := s) (pl := -1) (fd := 0) (lt := ru) (ct := co) (h := h) hw0 hw1 hw2)] at hR
        dsimp only at hR
        refine J.run (sn_X7_readsClause F) 10 [1, 1] (S' := (39, [(0, .ref 500), (1, .long (wrI tx t (tso ty t s) s ((skq ty t 97 122 s) - s)))], [.long 427071727464, .long (wrI tx t (tso ty t s) s ((skq ty t 97 122 s) - s))], [(500, mP z t (skq ty t 97 122 s) (tso ty t s) s ((skq ty t 97 122 s) - s) fa ru co), (501, .inr (.inl (0, tx))), (503, .inr (.inl (0, dl))), (504, .inr (.inl (0, [h 14, h 15, h 16])))])) (ob := [¬ (lg_cmp (wrI tx t (tso ty t s) s ((skq ty t 97 122 s) - s)) 120282394289522) = 0, ¬ (lg_cmp (wrI tx t (tso ty t s) s ((skq ty t 97 122 s) - s)) 7102839) = 0]) rfl (ob_c (by rw [← htk]; exact (of_decide_eq_false ((wrk_0 hT hs9).trans hw0))) (ob_c (by rw [← htk]; exact (of_decide_eq_false ((wrk_1 hT hs9).trans hw1))) ob_n)) ?_
        refine J.run (sn_X7_readsClause F) 3 [0] (S' := (44, [(0, .ref 500), (1, .long (wrI tx t (tso ty t s) s ((skq ty t 97 122 s) - s)))], [.ref 500], [(500, mP z t (skq ty t 97 122 s) (tso ty t s) s ((skq ty t 97 122 s) - s) fa ru co), (501, .inr (.inl (0, tx))), (503, .inr (.inl (0, dl))), (504, .inr (.inl (0, [h 14, h 15, h 16])))])) (ob := [(lg_cmp (wrI tx t (tso ty t s) s ((skq ty t 97 122 s) - s)) 427071727464) = 0]) rfl (ob_c (by rw [← htk]; exact (of_decide_eq_true ((wrk_2 hT hs9).trans hw2))) ob_n) ?_
        refine J.callV F hJ lk_X7_144 im_X7_readsCough se_X7_readsCough (by decide +kernel) (c_mcog z tx ty htx t ht hT (skq ty t 97 122 s) (tso ty t s) s ((skq ty t 97 122 s) - s) fa ru co (by omega) hs9 dl hdl h hd hct) (fun k => k) (by decide) [] rfl rfl rfl rfl rfl (by decide +kernel) rfl (show List.Nodup [500, 501, 503] by decide +kernel) (fun r ws' hk hp => ?_)
        obtain ⟨a1, so1, s1, sz1, fa1, dl1, g1, g2, g3, g4, rfl, rfl⟩ := hp
        show J x 3 (ad, 0, 0) (47, [(0, .ref 500), (1, .long (wrI tx t (tso ty t s) s ((skq ty t 97 122 s) - s)))], [.int (b2i (decide ((coS ty t s co ((skq ty t 97 122 s), (-1 : Int32), (0 : Int32))).2.2 = 0)))], [(500, mP z t a1 so1 s1 sz1 fa1 ru 1), (501, .inr (.inl (0, tx))), (503, .inr (.inl (0, dl1))), (504, .inr (.inl (0, [h 14, h 15, h 16])))])
        cases hdc : decide ((coS ty t s co ((skq ty t 97 122 s), (-1 : Int32), (0 : Int32))).2.2 = 0)
        · skip
          refine J.run (sn_X7_readsClause F) 1 [] (S' := (55, [(0, .ref 500), (1, .long (wrI tx t (tso ty t s) s ((skq ty t 97 122 s) - s)))], [.int 0], [(500, mP z t a1 so1 s1 sz1 fa1 ru 1), (501, .inr (.inl (0, tx))), (503, .inr (.inl (0, dl1))), (504, .inr (.inl (0, [h 14, h 15, h 16])))])) (ob := []) rfl (ob_n) ?_
          exact J.iret F hR (Nat.le_refl _) (Nat.le_refl _) rfl rfl (by decide +kernel) ⟨rfl, keq [500, 501, 503, 504] rfl rfl, a1, so1, s1, sz1, fa1, ru, 1, dl1, (h 14), (h 15), (h 16), g1, g2, (fun h0 => absurd h0 (of_decide_eq_false hdc)), (fun h0 => g4 h0), (congrArg (fun b => some (Value.int (b2i b))) hdc).symm, rfl⟩
        · skip
          refine J.run (sn_X7_readsClause F) 1 [] (S' := (55, [(0, .ref 500), (1, .long (wrI tx t (tso ty t s) s ((skq ty t 97 122 s) - s)))], [.int 1], [(500, mP z t a1 so1 s1 sz1 fa1 ru 1), (501, .inr (.inl (0, tx))), (503, .inr (.inl (0, dl1))), (504, .inr (.inl (0, [h 14, h 15, h 16])))])) (ob := []) rfl (ob_n) ?_
          obtain ⟨k1, k2, k3⟩ := g3 (of_decide_eq_true hdc)
          exact J.iret F hR (Nat.le_refl _) (Nat.le_refl _) rfl rfl (by decide +kernel) ⟨rfl, keq [500, 501, 503, 504] rfl rfl, a1, so1, s1, sz1, fa1, ru, 1, dl1, (h 14), (h 15), (h 16), g1, g2, (fun _ => ⟨k1, k2, rfl, rfl, k3, rfl, rfl, rfl⟩), (fun h0 => absurd (of_decide_eq_true hdc) h0), (congrArg (fun b => some (Value.int (b2i b))) hdc).symm, rfl⟩
    · skip
      obtain ⟨htk, hso1⟩ := wdB_let hs9 (by decide) hw1
      rw [htk]
      have hE5 : (skq ty t 97 122 s) ≤ t := skq_le hs9
      rw [(clS_1 (ty := ty) (t := t) (a := s) (pl := -1) (fd := 0) (lt := ru) (ct := co) (h := h) hw0 hw1)] at hR
      dsimp only at hR
      refine J.run (sn_X7_readsClause F) 9 [1, 0] (S' := (29, [(0, .ref 500), (1, .long (wrI tx t (tso ty t s) s ((skq ty t 97 122 s) - s)))], [.ref 500], [(500, mP z t (skq ty t 97 122 s) (tso ty t s) s ((skq ty t 97 122 s) - s) fa ru co), (501, .inr (.inl (0, tx))), (503, .inr (.inl (0, dl))), (504, .inr (.inl (0, [h 14, h 15, h 16])))])) (ob := [¬ (lg_cmp (wrI tx t (tso ty t s) s ((skq ty t 97 122 s) - s)) 120282394289522) = 0, (lg_cmp (wrI tx t (tso ty t s) s ((skq ty t 97 122 s) - s)) 7102839) = 0]) rfl (ob_c (by rw [← htk]; exact (of_decide_eq_false ((wrk_0 hT hs9).trans hw0))) (ob_c (by rw [← htk]; exact (of_decide_eq_true ((wrk_1 hT hs9).trans hw1))) ob_n)) ?_
      refine J.callV F hJ lk_X7_139 im_X7_readsLaw se_X7_readsLaw (by decide +kernel) (c_mlaw' z tx ty htx t ht hT (skq ty t 97 122 s) (tso ty t s) s ((skq ty t 97 122 s) - s) fa ru co (by omega) hs9 h hlt) (fun k => k) (by decide) [] rfl rfl rfl rfl rfl (by decide +kernel) rfl (show List.Nodup [500, 501, 504] by decide +kernel) (fun r ws' hk hp => ?_)
      obtain ⟨a1, so1, s1, sz1, fa1, x0, x1, x2, g2, g3, g4, rfl, rfl⟩ := hp
      show J x 3 (ad, 0, 0) (32, [(0, .ref 500), (1, .long (wrI tx t (tso ty t s) s ((skq ty t 97 122 s) - s)))], [.int (b2i (decide ((laS ty t s ru ((skq ty t 97 122 s), (-1 : Int32), (0 : Int32))).2.2 = 0)))], [(500, mP z t a1 so1 s1 sz1 fa1 1 co), (501, .inr (.inl (0, tx))), (503, .inr (.inl (0, dl))), (504, .inr (.inl (0, [x0, x1, x2])))])
      cases hdc : decide ((laS ty t s ru ((skq ty t 97 122 s), (-1 : Int32), (0 : Int32))).2.2 = 0)
      · skip
        refine J.run (sn_X7_readsClause F) 1 [] (S' := (55, [(0, .ref 500), (1, .long (wrI tx t (tso ty t s) s ((skq ty t 97 122 s) - s)))], [.int 0], [(500, mP z t a1 so1 s1 sz1 fa1 1 co), (501, .inr (.inl (0, tx))), (503, .inr (.inl (0, dl))), (504, .inr (.inl (0, [x0, x1, x2])))])) (ob := []) rfl (ob_n) ?_
        exact J.iret F hR (Nat.le_refl _) (Nat.le_refl _) rfl rfl (by decide +kernel) ⟨rfl, keq [500, 501, 503, 504] rfl rfl, a1, so1, s1, sz1, fa1, 1, co, dl, x0, x1, x2, hdl, g2, (fun h0 => absurd h0 (of_decide_eq_false hdc)), (fun h0 => g4 h0), (congrArg (fun b => some (Value.int (b2i b))) hdc).symm, rfl⟩
      · skip
        refine J.run (sn_X7_readsClause F) 1 [] (S' := (55, [(0, .ref 500), (1, .long (wrI tx t (tso ty t s) s ((skq ty t 97 122 s) - s)))], [.int 1], [(500, mP z t a1 so1 s1 sz1 fa1 1 co), (501, .inr (.inl (0, tx))), (503, .inr (.inl (0, dl))), (504, .inr (.inl (0, [x0, x1, x2])))])) (ob := []) rfl (ob_n) ?_
        obtain ⟨k1, k2, k3⟩ := g3 (of_decide_eq_true hdc)
        have kL : ∀ k, k < 14 → gi dl k = laH ty t s ru ((skq ty t 97 122 s), (-1 : Int32), (0 : Int32)) h k := fun k hk => (hd k hk).trans (laH_lo hk).symm
        obtain ⟨k31, k32, k33⟩ := k3
        exact J.iret F hR (Nat.le_refl _) (Nat.le_refl _) rfl rfl (by decide +kernel) ⟨rfl, keq [500, 501, 503, 504] rfl rfl, a1, so1, s1, sz1, fa1, 1, co, dl, x0, x1, x2, hdl, g2, (fun _ => ⟨k1, k2, rfl, rfl, kL, k31, k32, k33⟩), (fun h0 => absurd (of_decide_eq_true hdc) h0), (congrArg (fun b => some (Value.int (b2i b))) hdc).symm, rfl⟩
  · skip
    obtain ⟨htk, hso1⟩ := wdB_let hs9 (by decide) hw0
    rw [htk]
    have hE5 : (skq ty t 97 122 s) ≤ t := skq_le hs9
    rw [(clS_0 (ty := ty) (t := t) (a := s) (pl := -1) (fd := 0) (lt := ru) (ct := co) (h := h) hw0)] at hR
    dsimp only at hR
    refine J.run (sn_X7_readsClause F) 5 [0] (S' := (14, [(0, .ref 500), (1, .long (wrI tx t (tso ty t s) s ((skq ty t 97 122 s) - s)))], [.ref 500], [(500, mP z t (skq ty t 97 122 s) (tso ty t s) s ((skq ty t 97 122 s) - s) fa ru co), (501, .inr (.inl (0, tx))), (503, .inr (.inl (0, dl))), (504, .inr (.inl (0, [h 14, h 15, h 16])))])) (ob := [(lg_cmp (wrI tx t (tso ty t s) s ((skq ty t 97 122 s) - s)) 120282394289522) = 0]) rfl (ob_c (by rw [← htk]; exact (of_decide_eq_true ((wrk_0 hT hs9).trans hw0))) ob_n) ?_
    refine J.callV F hJ lk_X7_134 im_X7_readsMember se_X7_readsMember (by decide +kernel) (c_mmem z tx ty htx t ht hT (skq ty t 97 122 s) (tso ty t s) s ((skq ty t 97 122 s) - s) fa ru co (by omega) hs9 dl hdl h hd hm) (fun k => k) (by decide) [] rfl rfl rfl rfl rfl (by decide +kernel) rfl (show List.Nodup [500, 501, 503] by decide +kernel) (fun r ws' hk hp => ?_)
    obtain ⟨a1, so1, s1, sz1, fa1, dl1, g1, g2, g3, g4, rfl, rfl⟩ := hp
    show J x 3 (ad, 0, 0) (17, [(0, .ref 500), (1, .long (wrI tx t (tso ty t s) s ((skq ty t 97 122 s) - s)))], [.int (b2i (decide ((meS ty t s ((skq ty t 97 122 s), (-1 : Int32), (0 : Int32)) h).2.2 = 0)))], [(500, mP z t a1 so1 s1 sz1 fa1 ru co), (501, .inr (.inl (0, tx))), (503, .inr (.inl (0, dl1))), (504, .inr (.inl (0, [h 14, h 15, h 16])))])
    cases hdc : decide ((meS ty t s ((skq ty t 97 122 s), (-1 : Int32), (0 : Int32)) h).2.2 = 0)
    · skip
      refine J.run (sn_X7_readsClause F) 1 [] (S' := (55, [(0, .ref 500), (1, .long (wrI tx t (tso ty t s) s ((skq ty t 97 122 s) - s)))], [.int 0], [(500, mP z t a1 so1 s1 sz1 fa1 ru co), (501, .inr (.inl (0, tx))), (503, .inr (.inl (0, dl1))), (504, .inr (.inl (0, [h 14, h 15, h 16])))])) (ob := []) rfl (ob_n) ?_
      exact J.iret F hR (Nat.le_refl _) (Nat.le_refl _) rfl rfl (by decide +kernel) ⟨rfl, keq [500, 501, 503, 504] rfl rfl, a1, so1, s1, sz1, fa1, ru, co, dl1, (h 14), (h 15), (h 16), g1, g2, (fun h0 => absurd h0 (of_decide_eq_false hdc)), (fun h0 => g4 h0), (congrArg (fun b => some (Value.int (b2i b))) hdc).symm, rfl⟩
    · skip
      refine J.run (sn_X7_readsClause F) 1 [] (S' := (55, [(0, .ref 500), (1, .long (wrI tx t (tso ty t s) s ((skq ty t 97 122 s) - s)))], [.int 1], [(500, mP z t a1 so1 s1 sz1 fa1 ru co), (501, .inr (.inl (0, tx))), (503, .inr (.inl (0, dl1))), (504, .inr (.inl (0, [h 14, h 15, h 16])))])) (ob := []) rfl (ob_n) ?_
      obtain ⟨k1, k2, k3⟩ := g3 (of_decide_eq_true hdc)
      exact J.iret F hR (Nat.le_refl _) (Nat.le_refl _) rfl rfl (by decide +kernel) ⟨rfl, keq [500, 501, 503, 504] rfl rfl, a1, so1, s1, sz1, fa1, ru, co, dl1, (h 14), (h 15), (h 16), g1, g2, (fun _ => ⟨k1, k2, rfl, rfl, k3, (meH_hi (by decide) (by decide)).symm, (meH_hi (by decide) (by decide)).symm, (meH_hi (by decide) (by decide)).symm⟩), (fun h0 => absurd (of_decide_eq_true hdc) h0), (congrArg (fun b => some (Value.int (b2i b))) hdc).symm, rfl⟩
