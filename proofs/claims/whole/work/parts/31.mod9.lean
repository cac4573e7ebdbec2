theorem nI_s1 (i : Nat) : nI (i + 1) - 1 = nI i := by
  rw [← nI_1]
  simp only [Int32.sub_eq_add_neg, Int32.add_assoc, Int32.add_right_neg, Int32.add_zero]
def mwy (n : Int32) : Nat → Int32
  | 0 => 1
  | k + 1 => mwy n k * n
theorem mwy_s (n : Int32) (k : Nat) : mwy n (k + 1) = mwy n k * n := rfl
def spv (n w : Int32) : Nat → Int32
  | 0 => w
  | k + 1 => spv n w k / n
theorem spv_s (n w : Int32) (k : Nat) : spv n w (k + 1) = spv n w k / n := rfl
def spI (n w : Int32) (i : Nat) : Int32 := spv n w i - spv n w i / n * n
def mI (h : Nat → Int32) : Nat → (Nat → Int32) → (Nat → Int32)
  | 0, b => b
  | k + 1, b => mI h k (mplay h b 0)
def mL (h : Nat → Int32) (w : Int32) : Nat → (Nat → Int32) → Bool → (Nat → Int32) × Bool
  | 0, b, g => (b, g)
  | k + 1, b, g => bif g then mL h w k (mplay h b w) (!decide (mwho h b w = 0)) else (b, false)
theorem mL_t (h : Nat → Int32) (w : Int32) (k : Nat) (b : Nat → Int32) : mL h w (k + 1) b true = mL h w k (mplay h b w) (!decide (mwho h b w = 0)) := rfl
def mgB (gN : Nat → Nat) (n w : Int32) (i : Nat) : Bool := decide (i = 0) || decide (0 < gN i) || !decide (spI n w (i - 1) = spI n w i)
def mF (h : Nat → Int32) (gN lN : Nat → Nat) (w : Int32) : Nat → Nat → (Nat → Int32) → Bool → (Nat → Int32) × Bool
  | 0, _, b, g => (b, g)
  | k + 1, i, b, g => bif g then mF h gN lN w k (i + 1) (mL h ((1 : Int32) <<< (spI (h 0) w i &&& 31)) (lN i) (mI h (gN i) b) (mgB gN (h 0) w i)).1 (mL h ((1 : Int32) <<< (spI (h 0) w i &&& 31)) (lN i) (mI h (gN i) b) (mgB gN (h 0) w i)).2 else (b, false)
def fitB (h b : Nat → Int32) (gN lN : Nat → Nat) (c : Nat) (w : Int32) : Bool := (mF h gN lN w c 0 (mcp b) true).2
theorem mcp_st {b : Nat → Int32} (h : st5 b) : st5 (mcp b) := h
theorem mI_st {h b : Nat → Int32} (hb : st5 b) (k : Nat) : st5 (mI h k b) := by
  induction k generalizing b with
  | zero => exact hb
  | succ k ih => exact ih (mplay_st hb 0)
theorem mL_st {h b : Nat → Int32} {w : Int32} (hb : st5 b) (k : Nat) {g : Bool} : st5 (mL h w k b g).1 := by
  induction k generalizing b g with
  | zero => exact hb
  | succ k ih =>
    cases g
    · exact hb
    · exact ih (mplay_st hb w)
def mN (h b : Nat → Int32) (gN lN : Nat → Nat) (c : Nat) : Nat → Int32
  | 0 => 0
  | i + 1 => mN h b gN lN c i + b2i (fitB h b gN lN c (nI i))
theorem mN_s (h b : Nat → Int32) (gN lN : Nat → Nat) (c i : Nat) : mN h b gN lN c (i + 1) = mN h b gN lN c i + b2i (fitB h b gN lN c (nI i)) := rfl
def mU (h b : Nat → Int32) (gN lN : Nat → Nat) (c q : Nat) : Nat → Int32
  | 0 => 0
  | i + 1 => mU h b gN lN c q i ||| (bif fitB h b gN lN c (nI i) then (1 : Int32) <<< (spI (h 0) (nI i) q &&& 31) else 0)
theorem mU_s (h b : Nat → Int32) (gN lN : Nat → Nat) (c q i : Nat) : mU h b gN lN c q (i + 1) = mU h b gN lN c q i ||| (bif fitB h b gN lN c (nI i) then (1 : Int32) <<< (spI (h 0) (nI i) q &&& 31) else 0) := rfl
set_option maxHeartbeats 4000000 in
set_option maxRecDepth 100000 in
theorem c_ways (z h : Nat → Int32) (c : Nat) (hc : c ≤ 7) (hz : z 14 = nI c) : Ctr mk_X7_ways 1 [.ref 500] [(500, mO z), (502, a14 h)] (fun r u => r = some (.int (mwy (h 0) c)) ∧ u = [(500, mO z), (502, a14 h)]) := by
  refine Ctr.of rfl (Nat.le_of_ble_eq_true rfl) ?_
  intro x ad F hJ hR
  have H : ∀ k i : Nat, i + k = c → J x 3 (ad, 0, 0) (4, [(0, .ref 500), (1, .int (mwy (h 0) i)), (2, .int (nI i))], [], [(500, mO z), (502, a14 h)]) := by
    intro k
    induction k with
    | zero =>
      intro i hi
      have e : i = c := by omega
      subst e
      refine J.run (sn_X7_ways F) 5 [1] (S' := (28, [(0, .ref 500), (1, .int (mwy (h 0) i)), (2, .int (nI i))], [.int (mwy (h 0) i)], [(500, mO z), (502, a14 h)])) (ob := [(z 14) ≤ (nI i)]) rfl (ob_c (by rw [hz]; exact n_le (by omega) (by omega) (Nat.le_refl _)) ob_n) ?_
      exact J.iret F hR (Nat.le_refl _) (Nat.le_refl _) rfl rfl (by decide +kernel) ⟨rfl, keq [500, 502] rfl rfl, rfl, rfl⟩
    | succ k ih =>
      intro i hi
      refine J.run (sn_X7_ways F) 10 [0, 0] (S' := (20, [(0, .ref 500), (1, .int (mwy (h 0) i)), (2, .int (nI i))], [.int ((mwy (h 0) i) * (h 0))], [(500, mO z), (502, a14 h)])) (ob := [¬ (z 14) ≤ (nI i), ix 0 0 14]) rfl (ob_c (by rw [hz]; exact n_nle (by omega) (by omega) (by omega)) (ob_c (ix_of rfl) ob_n)) ?_
      refine J.run (sn_X7_ways F) 3 [] (S' := (4, [(0, .ref 500), (1, .int ((mwy (h 0) i) * (h 0))), (2, .int ((nI i) + 1))], [], [(500, mO z), (502, a14 h)])) (ob := []) rfl (ob_n) ?_
      exact J.cast (ih (i + 1) (by omega)) (by simp only [mwy_s, nI_1])
  refine J.run (sn_X7_ways F) 4 [] (S' := (4, [(0, .ref 500), (1, .int 1), (2, .int 0)], [], [(500, mO z), (502, a14 h)])) (ob := []) rfl (ob_n) ?_
  exact H c 0 (by omega)
set_option maxHeartbeats 4000000 in
set_option maxRecDepth 100000 in
theorem c_speaker (z h : Nat → Int32) (w : Int32) (q : Nat) (hq : q ≤ 7) (h0 : ¬ h 0 = 0) : Ctr mk_X7_speaker 1 [.ref 500, .int w, .int (nI q)] [(500, mO z), (502, a14 h)] (fun r u => r = some (.int (spI (h 0) w q)) ∧ u = [(500, mO z), (502, a14 h)]) := by
  refine Ctr.of rfl (Nat.le_of_ble_eq_true rfl) ?_
  intro x ad F hJ hR
  have H : ∀ k i : Nat, i + k = q → J x 5 (ad, 0, 0) (5, [(0, .ref 500), (1, .int w), (2, .int (nI q)), (3, .int (spv (h 0) w i)), (4, .int (nI i))], [], [(500, mO z), (502, a14 h)]) := by
    intro k
    induction k with
    | zero =>
      intro i hi
      have e : i = q := by omega
      subst e
      refine J.run (sn_X7_speaker F) 9 [1, 0] (S' := (34, [(0, .ref 500), (1, .int w), (2, .int (nI i)), (3, .int (spv (h 0) w i)), (4, .int (nI i))], [.int ((spv (h 0) w i) - (spv (h 0) w i) / (h 0) * (h 0))], [(500, mO z), (502, a14 h)])) (ob := [(nI i) ≤ (nI i), ix 0 0 14, ¬ (h 0) = 0]) rfl (ob_c (n_le (by omega) (by omega) (Nat.le_refl _)) (ob_c (ix_of rfl) (ob_c h0 ob_n))) ?_
      exact J.iret F hR (Nat.le_refl _) (Nat.le_refl _) rfl rfl (by decide +kernel) ⟨rfl, keq [500, 502] rfl rfl, rfl, rfl⟩
    | succ k ih =>
      intro i hi
      refine J.run (sn_X7_speaker F) 10 [0, 0] (S' := (20, [(0, .ref 500), (1, .int w), (2, .int (nI q)), (3, .int ((spv (h 0) w i) / (h 0))), (4, .int (nI i))], [], [(500, mO z), (502, a14 h)])) (ob := [¬ (nI q) ≤ (nI i), ix 0 0 14, ¬ (h 0) = 0]) rfl (ob_c (n_nle (by omega) (by omega) (by omega)) (ob_c (ix_of rfl) (ob_c h0 ob_n))) ?_
      refine J.run (sn_X7_speaker F) 2 [] (S' := (5, [(0, .ref 500), (1, .int w), (2, .int (nI q)), (3, .int ((spv (h 0) w i) / (h 0))), (4, .int ((nI i) + 1))], [], [(500, mO z), (502, a14 h)])) (ob := []) rfl (ob_n) ?_
      exact J.cast (ih (i + 1) (by omega)) (by simp only [spv_s, nI_1])
  refine J.run (sn_X7_speaker F) 4 [] (S' := (5, [(0, .ref 500), (1, .int w), (2, .int (nI q)), (3, .int w), (4, .int 0)], [], [(500, mO z), (502, a14 h)])) (ob := []) rfl (ob_n) ?_
  exact H q 0 (by omega)
set_option maxHeartbeats 4000000 in
set_option maxRecDepth 100000 in
theorem c_fitsWay (z h b c' : Nat → Int32) (gs ls : List Int32) (hgs : gs.length = 7) (hls : ls.length = 7) (c : Nat) (hc : c ≤ 7) (hz : z 14 = nI c) (gN lN : Nat → Nat) (hg : ∀ i, i < c → gi gs i = nI (gN i) ∧ gN i ≤ 9) (hl : ∀ i, i < c → gi ls i = nI (lN i) ∧ lN i ≤ 4) (h0 : 0 < c → ¬ h 0 = 0) (hn : h 0 ≤ 4) (hst : st5 b) (w : Int32) : Ctr mk_X7_fitsWay 4 [.ref 500, .int w] [(500, mO z), (502, a14 h), (505, a28 b), (506, a28 c'), (511, .inr (.inl (0, gs))), (512, .inr (.inl (0, ls)))] (fun r u => ∃ d' : Nat → Int32, r = some (.int (b2i (fitB h b gN lN c w))) ∧ u = [(500, mO z), (502, a14 h), (505, a28 b), (506, a28 d'), (511, .inr (.inl (0, gs))), (512, .inr (.inl (0, ls)))]) := by
  refine Ctr.of rfl (Nat.le_of_ble_eq_true rfl) ?_
  intro x ad F hJ hR
  have H1 : ∀ (i : Nat), i < c → ∀ (v wh : Int32) (k j : Nat) (e : Nat → Int32), st5 e → j + k = gN i → J x 6 (ad, 0, 0) (86, [(0, .ref 500), (1, .int w), (2, .int v), (3, .int (nI i)), (4, .int wh)], [], [(500, mO z), (502, a14 h), (505, a28 b), (506, a28 (mI h k e)), (511, .inr (.inl (0, gs))), (512, .inr (.inl (0, ls)))]) → J x 6 (ad, 0, 0) (63, [(0, .ref 500), (1, .int w), (2, .int v), (3, .int (nI i)), (4, .int wh), (5, .int (nI j))], [], [(500, mO z), (502, a14 h), (505, a28 b), (506, a28 e), (511, .inr (.inl (0, gs))), (512, .inr (.inl (0, ls)))]) := by
    intro i hi v wh k
    obtain ⟨hgi, hg9⟩ := hg i hi
    induction k with
    | zero =>
      intro j e he hj hQ
      refine J.run (sn_X7_fitsWay F) 6 [i, 1] (S' := (86, [(0, .ref 500), (1, .int w), (2, .int v), (3, .int (nI i)), (4, .int wh), (5, .int (nI j))], [], [(500, mO z), (502, a14 h), (505, a28 b), (506, a28 e), (511, .inr (.inl (0, gs))), (512, .inr (.inl (0, ls)))])) (ob := [ix (nI i) i gs.length, (gi gs i) ≤ (nI j)]) rfl (ob_c (ix_len hgs (ix_nI (by omega) (by decide))) (ob_c (by rw [hgi]; exact n_le (by omega) (by omega) (by omega)) ob_n)) ?_
      refine J.lv (lv' := [(0, .ref 500), (1, .int w), (2, .int v), (3, .int (nI i)), (4, .int wh)]) [0, 1, 2, 3, 4] rfl ?_
      exact hQ
    | succ k ih =>
      intro j e he hj hQ
      refine J.run (sn_X7_fitsWay F) 8 [i, 0] (S' := (76, [(0, .ref 500), (1, .int w), (2, .int v), (3, .int (nI i)), (4, .int wh), (5, .int (nI j))], [.int 0, .ref 500], [(500, mO z), (502, a14 h), (505, a28 b), (506, a28 e), (511, .inr (.inl (0, gs))), (512, .inr (.inl (0, ls)))])) (ob := [ix (nI i) i gs.length, ¬ (gi gs i) ≤ (nI j)]) rfl (ob_c (ix_len hgs (ix_nI (by omega) (by decide))) (ob_c (by rw [hgi]; exact n_nle (by omega) (by omega) (by omega)) ob_n)) ?_
      refine J.callV F hJ lk_X7_186 im_X7_plays se_X7_plays (by decide +kernel) (c_plays z e h 0 hn he) (fun k => k) (by decide) [] rfl rfl rfl rfl rfl (by decide) rfl (show List.Nodup [500, 502, 506] by decide) (fun r ws' hk hp => ?_)
      obtain ⟨rfl, rfl⟩ := hp
      show J x 6 (ad, 0, 0) (79, [(0, .ref 500), (1, .int w), (2, .int v), (3, .int (nI i)), (4, .int wh), (5, .int (nI j))], [.int (mwho h e 0)], [(500, mO z), (502, a14 h), (505, a28 b), (506, a28 (mplay h e 0)), (511, .inr (.inl (0, gs))), (512, .inr (.inl (0, ls)))])
      refine J.run (sn_X7_fitsWay F) 3 [] (S' := (63, [(0, .ref 500), (1, .int w), (2, .int v), (3, .int (nI i)), (4, .int wh), (5, .int ((nI j) + 1))], [], [(500, mO z), (502, a14 h), (505, a28 b), (506, a28 (mplay h e 0)), (511, .inr (.inl (0, gs))), (512, .inr (.inl (0, ls)))])) (ob := []) rfl (ob_n) ?_
      exact J.cast (ih (j + 1) (mplay h e 0) (mplay_st he 0) (by omega) hQ) (by simp only [nI_1])
  have H2 : ∀ (i : Nat), i < c → ∀ (wh : Int32) (k j : Nat) (e : Nat → Int32) (g : Bool), st5 e → j + k = lN i → J x 6 (ad, 0, 0) (127, [(0, .ref 500), (1, .int w), (2, .int (b2i (mL h ((1 : Int32) <<< (wh &&& 31)) k e g).2)), (3, .int (nI i))], [], [(500, mO z), (502, a14 h), (505, a28 b), (506, a28 (mL h ((1 : Int32) <<< (wh &&& 31)) k e g).1), (511, .inr (.inl (0, gs))), (512, .inr (.inl (0, ls)))]) → J x 6 (ad, 0, 0) (89, [(0, .ref 500), (1, .int w), (2, .int (b2i g)), (3, .int (nI i)), (4, .int wh), (5, .int (nI j))], [], [(500, mO z), (502, a14 h), (505, a28 b), (506, a28 e), (511, .inr (.inl (0, gs))), (512, .inr (.inl (0, ls)))]) := by
    intro i hi wh k
    obtain ⟨hli, hl4⟩ := hl i hi
    induction k with
    | zero =>
      intro j e g he hj hQ
      refine J.run (sn_X7_fitsWay F) 6 [i, 1] (S' := (127, [(0, .ref 500), (1, .int w), (2, .int (b2i g)), (3, .int (nI i)), (4, .int wh), (5, .int (nI j))], [], [(500, mO z), (502, a14 h), (505, a28 b), (506, a28 e), (511, .inr (.inl (0, gs))), (512, .inr (.inl (0, ls)))])) (ob := [ix (nI i) i ls.length, (gi ls i) ≤ (nI j)]) rfl (ob_c (ix_len hls (ix_nI (by omega) (by decide))) (ob_c (by rw [hli]; exact n_le (by omega) (by omega) (by omega)) ob_n)) ?_
      refine J.lv (lv' := [(0, .ref 500), (1, .int w), (2, .int (b2i g)), (3, .int (nI i))]) [0, 1, 2, 3] rfl ?_
      exact hQ
    | succ k ih =>
      intro j e g he hj hQ
      cases g
      · show J x 6 (ad, 0, 0) (89, [(0, .ref 500), (1, .int w), (2, .int 0), (3, .int (nI i)), (4, .int wh), (5, .int (nI j))], [], [(500, mO z), (502, a14 h), (505, a28 b), (506, a28 e), (511, .inr (.inl (0, gs))), (512, .inr (.inl (0, ls)))])
        refine J.run (sn_X7_fitsWay F) 8 [i, 0, 1] (S' := (127, [(0, .ref 500), (1, .int w), (2, .int 0), (3, .int (nI i)), (4, .int wh), (5, .int (nI j))], [], [(500, mO z), (502, a14 h), (505, a28 b), (506, a28 e), (511, .inr (.inl (0, gs))), (512, .inr (.inl (0, ls)))])) (ob := [ix (nI i) i ls.length, ¬ (gi ls i) ≤ (nI j), (0 : Int32) = 0]) rfl (ob_c (ix_len hls (ix_nI (by omega) (by decide))) (ob_c (by rw [hli]; exact n_nle (by omega) (by omega) (by omega)) (ob_c (by decide) ob_n))) ?_
        refine J.lv (lv' := [(0, .ref 500), (1, .int w), (2, .int 0), (3, .int (nI i))]) [0, 1, 2, 3] rfl ?_
        exact hQ
      · show J x 6 (ad, 0, 0) (89, [(0, .ref 500), (1, .int w), (2, .int 1), (3, .int (nI i)), (4, .int wh), (5, .int (nI j))], [], [(500, mO z), (502, a14 h), (505, a28 b), (506, a28 e), (511, .inr (.inl (0, gs))), (512, .inr (.inl (0, ls)))])
        refine J.run (sn_X7_fitsWay F) 10 [i, 0, 0] (S' := (106, [(0, .ref 500), (1, .int w), (2, .int 1), (3, .int (nI i)), (4, .int wh), (5, .int (nI j))], [.int 1, .ref 500], [(500, mO z), (502, a14 h), (505, a28 b), (506, a28 e), (511, .inr (.inl (0, gs))), (512, .inr (.inl (0, ls)))])) (ob := [ix (nI i) i ls.length, ¬ (gi ls i) ≤ (nI j), ¬ (1 : Int32) = 0]) rfl (ob_c (ix_len hls (ix_nI (by omega) (by decide))) (ob_c (by rw [hli]; exact n_nle (by omega) (by omega) (by omega)) (ob_c (by decide) ob_n))) ?_
        refine J.run (sn_X7_fitsWay F) 2 [] (S' := (109, [(0, .ref 500), (1, .int w), (2, .int 1), (3, .int (nI i)), (4, .int wh), (5, .int (nI j))], [.int ((1 : Int32) <<< (wh &&& 31)), .ref 500], [(500, mO z), (502, a14 h), (505, a28 b), (506, a28 e), (511, .inr (.inl (0, gs))), (512, .inr (.inl (0, ls)))])) (ob := []) rfl (ob_n) ?_
        refine J.callV F hJ lk_X7_186 im_X7_plays se_X7_plays (by decide +kernel) (c_plays z e h ((1 : Int32) <<< (wh &&& 31)) hn he) (fun k => k) (by decide) [] rfl rfl rfl rfl rfl (by decide) rfl (show List.Nodup [500, 502, 506] by decide) (fun r ws' hk hp => ?_)
        obtain ⟨rfl, rfl⟩ := hp
        show J x 6 (ad, 0, 0) (112, [(0, .ref 500), (1, .int w), (2, .int 1), (3, .int (nI i)), (4, .int wh), (5, .int (nI j))], [.int (mwho h e ((1 : Int32) <<< (wh &&& 31)))], [(500, mO z), (502, a14 h), (505, a28 b), (506, a28 (mplay h e ((1 : Int32) <<< (wh &&& 31)))), (511, .inr (.inl (0, gs))), (512, .inr (.inl (0, ls)))])
        by_cases h1 : (mwho h e ((1 : Int32) <<< (wh &&& 31))) = 0
        · skip
          refine J.run (sn_X7_fitsWay F) 5 [1] (S' := (89, [(0, .ref 500), (1, .int w), (2, .int 0), (3, .int (nI i)), (4, .int wh), (5, .int ((nI j) + 1))], [], [(500, mO z), (502, a14 h), (505, a28 b), (506, a28 (mplay h e ((1 : Int32) <<< (wh &&& 31)))), (511, .inr (.inl (0, gs))), (512, .inr (.inl (0, ls)))])) (ob := [(mwho h e ((1 : Int32) <<< (wh &&& 31))) = 0]) rfl (ob_c h1 ob_n) ?_
          have eg : (!decide (mwho h e ((1 : Int32) <<< (wh &&& 31)) = 0)) = false := by simp only [h1, decide_true, decide_false, Bool.not_true, Bool.not_false]
          refine J.cast (ih (j + 1) (mplay h e ((1 : Int32) <<< (wh &&& 31))) false (mplay_st he _) (by omega) ?_) (by simp only [nI_1]; rfl)
          rw [mL_t, eg] at hQ
          exact hQ
        · skip
          refine J.run (sn_X7_fitsWay F) 6 [0] (S' := (89, [(0, .ref 500), (1, .int w), (2, .int 1), (3, .int (nI i)), (4, .int wh), (5, .int ((nI j) + 1))], [], [(500, mO z), (502, a14 h), (505, a28 b), (506, a28 (mplay h e ((1 : Int32) <<< (wh &&& 31)))), (511, .inr (.inl (0, gs))), (512, .inr (.inl (0, ls)))])) (ob := [¬ (mwho h e ((1 : Int32) <<< (wh &&& 31))) = 0]) rfl (ob_c h1 ob_n) ?_
          have eg : (!decide (mwho h e ((1 : Int32) <<< (wh &&& 31)) = 0)) = true := by simp only [h1, decide_true, decide_false, Bool.not_true, Bool.not_false]
          refine J.cast (ih (j + 1) (mplay h e ((1 : Int32) <<< (wh &&& 31))) true (mplay_st he _) (by omega) ?_) (by simp only [nI_1]; rfl)
          rw [mL_t, eg] at hQ
          exact hQ
  have H8 : ∀ (k i : Nat) (e : Nat → Int32) (g : Bool), st5 e → i + k = c → (mF h gN lN w k i e g).2 = fitB h b gN lN c w → J x 6 (ad, 0, 0) (8, [(0, .ref 500), (1, .int w), (2, .int (b2i g)), (3, .int (nI i))], [], [(500, mO z), (502, a14 h), (505, a28 b), (506, a28 e), (511, .inr (.inl (0, gs))), (512, .inr (.inl (0, ls)))]) := by
    intro k
    induction k with
    | zero =>
      intro i e g he hi hQ
      cases g
      · show J x 6 (ad, 0, 0) (8, [(0, .ref 500), (1, .int w), (2, .int 0), (3, .int (nI i))], [], [(500, mO z), (502, a14 h), (505, a28 b), (506, a28 e), (511, .inr (.inl (0, gs))), (512, .inr (.inl (0, ls)))])
        have hQ' : fitB h b gN lN c w = false := hQ.symm
        refine J.run (sn_X7_fitsWay F) 5 [1] (S' := (134, [(0, .ref 500), (1, .int w), (2, .int 0), (3, .int (nI i))], [.int 0], [(500, mO z), (502, a14 h), (505, a28 b), (506, a28 e), (511, .inr (.inl (0, gs))), (512, .inr (.inl (0, ls)))])) (ob := [(z 14) ≤ (nI i)]) rfl (ob_c (by rw [hz]; exact n_le (by omega) (by omega) (by omega)) ob_n) ?_
        exact J.iret F hR (Nat.le_refl _) (Nat.le_refl _) rfl rfl (by decide +kernel) ⟨rfl, keq [500, 502, 505, 506, 511, 512] rfl rfl, e, by rw [hQ']; rfl, rfl⟩
      · show J x 6 (ad, 0, 0) (8, [(0, .ref 500), (1, .int w), (2, .int 1), (3, .int (nI i))], [], [(500, mO z), (502, a14 h), (505, a28 b), (506, a28 e), (511, .inr (.inl (0, gs))), (512, .inr (.inl (0, ls)))])
        have hQ' : fitB h b gN lN c w = true := hQ.symm
        refine J.run (sn_X7_fitsWay F) 5 [1] (S' := (134, [(0, .ref 500), (1, .int w), (2, .int 1), (3, .int (nI i))], [.int 1], [(500, mO z), (502, a14 h), (505, a28 b), (506, a28 e), (511, .inr (.inl (0, gs))), (512, .inr (.inl (0, ls)))])) (ob := [(z 14) ≤ (nI i)]) rfl (ob_c (by rw [hz]; exact n_le (by omega) (by omega) (by omega)) ob_n) ?_
        exact J.iret F hR (Nat.le_refl _) (Nat.le_refl _) rfl rfl (by decide +kernel) ⟨rfl, keq [500, 502, 505, 506, 511, 512] rfl rfl, e, by rw [hQ']; rfl, rfl⟩
    | succ k ih =>
      intro i e g he hi hQ
      have hic : i < c := by omega
      have hc0 : ¬ h 0 = 0 := h0 (by omega)
      cases g
      · show J x 6 (ad, 0, 0) (8, [(0, .ref 500), (1, .int w), (2, .int 0), (3, .int (nI i))], [], [(500, mO z), (502, a14 h), (505, a28 b), (506, a28 e), (511, .inr (.inl (0, gs))), (512, .inr (.inl (0, ls)))])
        have hQ' : fitB h b gN lN c w = false := hQ.symm
        refine J.run (sn_X7_fitsWay F) 7 [0, 1] (S' := (134, [(0, .ref 500), (1, .int w), (2, .int 0), (3, .int (nI i))], [.int 0], [(500, mO z), (502, a14 h), (505, a28 b), (506, a28 e), (511, .inr (.inl (0, gs))), (512, .inr (.inl (0, ls)))])) (ob := [¬ (z 14) ≤ (nI i), (0 : Int32) = 0]) rfl (ob_c (by rw [hz]; exact n_nle (by omega) (by omega) (by omega)) (ob_c (by decide) ob_n)) ?_
        exact J.iret F hR (Nat.le_refl _) (Nat.le_refl _) rfl rfl (by decide +kernel) ⟨rfl, keq [500, 502, 505, 506, 511, 512] rfl rfl, e, by rw [hQ']; rfl, rfl⟩
      · have HT : ∀ (g1 : Bool) (wh : Int32), wh = spI (h 0) w i → g1 = mgB gN (h 0) w i → J x 6 (ad, 0, 0) (63, [(0, .ref 500), (1, .int w), (2, .int (b2i g1)), (3, .int (nI i)), (4, .int wh), (5, .int 0)], [], [(500, mO z), (502, a14 h), (505, a28 b), (506, a28 e), (511, .inr (.inl (0, gs))), (512, .inr (.inl (0, ls)))]) := by
          intro g1 wh hwh hg1
          subst hwh
          subst hg1
          refine H1 i hic (b2i (mgB gN (h 0) w i)) (spI (h 0) w i) (gN i) 0 e he (by omega) ?_
          refine J.run (sn_X7_fitsWay F) 2 [] (S' := (89, [(0, .ref 500), (1, .int w), (2, .int (b2i (mgB gN (h 0) w i))), (3, .int (nI i)), (4, .int (spI (h 0) w i)), (5, .int 0)], [], [(500, mO z), (502, a14 h), (505, a28 b), (506, a28 (mI h (gN i) e)), (511, .inr (.inl (0, gs))), (512, .inr (.inl (0, ls)))])) (ob := []) rfl (ob_n) ?_
          refine H2 i hic (spI (h 0) w i) (lN i) 0 (mI h (gN i) e) (mgB gN (h 0) w i) (mI_st he _) (by omega) ?_
          refine J.run (sn_X7_fitsWay F) 2 [] (S' := (8, [(0, .ref 500), (1, .int w), (2, .int (b2i (mL h ((1 : Int32) <<< ((spI (h 0) w i) &&& 31)) (lN i) (mI h (gN i) e) (mgB gN (h 0) w i)).2)), (3, .int ((nI i) + 1))], [], [(500, mO z), (502, a14 h), (505, a28 b), (506, a28 (mL h ((1 : Int32) <<< ((spI (h 0) w i) &&& 31)) (lN i) (mI h (gN i) e) (mgB gN (h 0) w i)).1), (511, .inr (.inl (0, gs))), (512, .inr (.inl (0, ls)))])) (ob := []) rfl (ob_n) ?_
          exact J.cast (ih (i + 1) (mL h ((1 : Int32) <<< ((spI (h 0) w i) &&& 31)) (lN i) (mI h (gN i) e) (mgB gN (h 0) w i)).1 (mL h ((1 : Int32) <<< ((spI (h 0) w i) &&& 31)) (lN i) (mI h (gN i) e) (mgB gN (h 0) w i)).2 (mL_st (mI_st he _) _) (by omega) hQ) (by simp only [nI_1])
        show J x 6 (ad, 0, 0) (8, [(0, .ref 500), (1, .int w), (2, .int 1), (3, .int (nI i))], [], [(500, mO z), (502, a14 h), (505, a28 b), (506, a28 e), (511, .inr (.inl (0, gs))), (512, .inr (.inl (0, ls)))])
        cases i with
        | zero =>
          refine J.run (sn_X7_fitsWay F) 9 [0, 0] (S' := (23, [(0, .ref 500), (1, .int w), (2, .int 1), (3, .int (nI 0))], [.int (nI 0), .int w, .ref 500], [(500, mO z), (502, a14 h), (505, a28 b), (506, a28 e), (511, .inr (.inl (0, gs))), (512, .inr (.inl (0, ls)))])) (ob := [¬ (z 14) ≤ (nI 0), ¬ (1 : Int32) = 0]) rfl (ob_c (by rw [hz]; exact n_nle (by omega) (by omega) (by omega)) (ob_c (by decide) ob_n)) ?_
          refine J.callV F hJ lk_X7_230 im_X7_speaker se_X7_speaker (by decide +kernel) (c_speaker z h w 0 (by omega) hc0) (fun k => k) (by decide) [] rfl rfl rfl rfl rfl (by decide) rfl (show List.Nodup [500, 502] by decide) (fun r ws' hk hp => ?_)
          obtain ⟨rfl, rfl⟩ := hp
          show J x 6 (ad, 0, 0) (26, [(0, .ref 500), (1, .int w), (2, .int 1), (3, .int (nI 0))], [.int (spI (h 0) w 0)], [(500, mO z), (502, a14 h), (505, a28 b), (506, a28 e), (511, .inr (.inl (0, gs))), (512, .inr (.inl (0, ls)))])
          refine J.run (sn_X7_fitsWay F) 8 [1] (S' := (63, [(0, .ref 500), (1, .int w), (2, .int 1), (3, .int (nI 0)), (4, .int (spI (h 0) w 0)), (5, .int 0)], [], [(500, mO z), (502, a14 h), (505, a28 b), (506, a28 e), (511, .inr (.inl (0, gs))), (512, .inr (.inl (0, ls)))])) (ob := [(nI 0) = 0]) rfl (ob_c rfl ob_n) ?_
          exact HT true _ rfl rfl
        | succ i =>
          obtain ⟨hgi, hg9⟩ := hg (i + 1) hic
          by_cases hgp : 0 < gN (i + 1)
          · skip
            refine J.run (sn_X7_fitsWay F) 9 [0, 0] (S' := (23, [(0, .ref 500), (1, .int w), (2, .int 1), (3, .int (nI (i + 1)))], [.int (nI (i + 1)), .int w, .ref 500], [(500, mO z), (502, a14 h), (505, a28 b), (506, a28 e), (511, .inr (.inl (0, gs))), (512, .inr (.inl (0, ls)))])) (ob := [¬ (z 14) ≤ (nI (i + 1)), ¬ (1 : Int32) = 0]) rfl (ob_c (by rw [hz]; exact n_nle (by omega) (by omega) (by omega)) (ob_c (by decide) ob_n)) ?_
            refine J.callV F hJ lk_X7_230 im_X7_speaker se_X7_speaker (by decide +kernel) (c_speaker z h w (i + 1) (by omega) hc0) (fun k => k) (by decide) [] rfl rfl rfl rfl rfl (by decide) rfl (show List.Nodup [500, 502] by decide) (fun r ws' hk hp => ?_)
            obtain ⟨rfl, rfl⟩ := hp
            show J x 6 (ad, 0, 0) (26, [(0, .ref 500), (1, .int w), (2, .int 1), (3, .int (nI (i + 1)))], [.int (spI (h 0) w (i + 1))], [(500, mO z), (502, a14 h), (505, a28 b), (506, a28 e), (511, .inr (.inl (0, gs))), (512, .inr (.inl (0, ls)))])
            refine J.run (sn_X7_fitsWay F) 10 [0, (i + 1), 1] (S' := (59, [(0, .ref 500), (1, .int w), (2, .int 1), (3, .int (nI (i + 1))), (4, .int (spI (h 0) w (i + 1)))], [.int 1], [(500, mO z), (502, a14 h), (505, a28 b), (506, a28 e), (511, .inr (.inl (0, gs))), (512, .inr (.inl (0, ls)))])) (ob := [¬ (nI (i + 1)) = 0, ix (nI (i + 1)) (i + 1) gs.length, 0 < (gi gs (i + 1))]) rfl (ob_c (n_ne (b := 0) (by omega) (by omega) (by omega)) (ob_c (ix_len hgs (ix_nI (by omega) (by decide))) (ob_c (by rw [hgi]; exact n_lt (a := 0) (by omega) (by omega) hgp) ob_n))) ?_
            refine J.run (sn_X7_fitsWay F) 3 [] (S' := (63, [(0, .ref 500), (1, .int w), (2, .int 1), (3, .int (nI (i + 1))), (4, .int (spI (h 0) w (i + 1))), (5, .int 0)], [], [(500, mO z), (502, a14 h), (505, a28 b), (506, a28 e), (511, .inr (.inl (0, gs))), (512, .inr (.inl (0, ls)))])) (ob := []) rfl (ob_n) ?_
            exact HT true _ rfl (by simp only [mgB, hgp, Nat.add_sub_cancel, Nat.succ_ne_zero, Nat.add_eq_zero_iff, Nat.one_ne_zero, and_false, decide_true, decide_false, Bool.or_true, Bool.or_false, Bool.false_or, Bool.true_or, Bool.not_true, Bool.not_false])
          · skip
            refine J.run (sn_X7_fitsWay F) 9 [0, 0] (S' := (23, [(0, .ref 500), (1, .int w), (2, .int 1), (3, .int (nI (i + 1)))], [.int (nI (i + 1)), .int w, .ref 500], [(500, mO z), (502, a14 h), (505, a28 b), (506, a28 e), (511, .inr (.inl (0, gs))), (512, .inr (.inl (0, ls)))])) (ob := [¬ (z 14) ≤ (nI (i + 1)), ¬ (1 : Int32) = 0]) rfl (ob_c (by rw [hz]; exact n_nle (by omega) (by omega) (by omega)) (ob_c (by decide) ob_n)) ?_
            refine J.callV F hJ lk_X7_230 im_X7_speaker se_X7_speaker (by decide +kernel) (c_speaker z h w (i + 1) (by omega) hc0) (fun k => k) (by decide) [] rfl rfl rfl rfl rfl (by decide) rfl (show List.Nodup [500, 502] by decide) (fun r ws' hk hp => ?_)
            obtain ⟨rfl, rfl⟩ := hp
            show J x 6 (ad, 0, 0) (26, [(0, .ref 500), (1, .int w), (2, .int 1), (3, .int (nI (i + 1)))], [.int (spI (h 0) w (i + 1))], [(500, mO z), (502, a14 h), (505, a28 b), (506, a28 e), (511, .inr (.inl (0, gs))), (512, .inr (.inl (0, ls)))])
            refine J.run (sn_X7_fitsWay F) 10 [0, (i + 1), 0] (S' := (43, [(0, .ref 500), (1, .int w), (2, .int 1), (3, .int (nI (i + 1))), (4, .int (spI (h 0) w (i + 1)))], [.int w, .ref 500], [(500, mO z), (502, a14 h), (505, a28 b), (506, a28 e), (511, .inr (.inl (0, gs))), (512, .inr (.inl (0, ls)))])) (ob := [¬ (nI (i + 1)) = 0, ix (nI (i + 1)) (i + 1) gs.length, ¬ 0 < (gi gs (i + 1))]) rfl (ob_c (n_ne (b := 0) (by omega) (by omega) (by omega)) (ob_c (ix_len hgs (ix_nI (by omega) (by decide))) (ob_c (by rw [hgi]; exact n_nlt (a := 0) (by omega) (by omega) (by omega)) ob_n))) ?_
            refine J.run (sn_X7_fitsWay F) 3 [] (S' := (46, [(0, .ref 500), (1, .int w), (2, .int 1), (3, .int (nI (i + 1))), (4, .int (spI (h 0) w (i + 1)))], [.int ((nI (i + 1)) - 1), .int w, .ref 500], [(500, mO z), (502, a14 h), (505, a28 b), (506, a28 e), (511, .inr (.inl (0, gs))), (512, .inr (.inl (0, ls)))])) (ob := []) rfl (ob_n) ?_
            rw [nI_s1]
            refine J.callV F hJ lk_X7_230 im_X7_speaker se_X7_speaker (by decide +kernel) (c_speaker z h w i (by omega) hc0) (fun k => k) (by decide) [] rfl rfl rfl rfl rfl (by decide) rfl (show List.Nodup [500, 502] by decide) (fun r ws' hk hp => ?_)
            obtain ⟨rfl, rfl⟩ := hp
            show J x 6 (ad, 0, 0) (49, [(0, .ref 500), (1, .int w), (2, .int 1), (3, .int (nI (i + 1))), (4, .int (spI (h 0) w (i + 1)))], [.int (spI (h 0) w i)], [(500, mO z), (502, a14 h), (505, a28 b), (506, a28 e), (511, .inr (.inl (0, gs))), (512, .inr (.inl (0, ls)))])
            by_cases h1 : (spI (h 0) w i) = (spI (h 0) w (i + 1))
            · skip
              refine J.run (sn_X7_fitsWay F) 6 [1] (S' := (63, [(0, .ref 500), (1, .int w), (2, .int 0), (3, .int (nI (i + 1))), (4, .int (spI (h 0) w (i + 1))), (5, .int 0)], [], [(500, mO z), (502, a14 h), (505, a28 b), (506, a28 e), (511, .inr (.inl (0, gs))), (512, .inr (.inl (0, ls)))])) (ob := [(spI (h 0) w i) = (spI (h 0) w (i + 1))]) rfl (ob_c h1 ob_n) ?_
              exact HT false _ rfl (by simp only [mgB, hgp, Nat.add_sub_cancel, Nat.succ_ne_zero, Nat.add_eq_zero_iff, Nat.one_ne_zero, and_false, h1, decide_true, decide_false, Bool.or_true, Bool.or_false, Bool.false_or, Bool.true_or, Bool.not_true, Bool.not_false])
            · skip
              refine J.run (sn_X7_fitsWay F) 7 [0] (S' := (63, [(0, .ref 500), (1, .int w), (2, .int 1), (3, .int (nI (i + 1))), (4, .int (spI (h 0) w (i + 1))), (5, .int 0)], [], [(500, mO z), (502, a14 h), (505, a28 b), (506, a28 e), (511, .inr (.inl (0, gs))), (512, .inr (.inl (0, ls)))])) (ob := [¬ (spI (h 0) w i) = (spI (h 0) w (i + 1))]) rfl (ob_c h1 ob_n) ?_
              exact HT true _ rfl (by simp only [mgB, hgp, Nat.add_sub_cancel, Nat.succ_ne_zero, Nat.add_eq_zero_iff, Nat.one_ne_zero, and_false, h1, decide_true, decide_false, Bool.or_true, Bool.or_false, Bool.false_or, Bool.true_or, Bool.not_true, Bool.not_false])
  refine J.run (sn_X7_fitsWay F) 1 [] (S' := (1, [(0, .ref 500), (1, .int w)], [.ref 500], [(500, mO z), (502, a14 h), (505, a28 b), (506, a28 c'), (511, .inr (.inl (0, gs))), (512, .inr (.inl (0, ls)))])) (ob := []) rfl (ob_n) ?_
  refine J.callV F hJ lk_X7_183 im_X7_copies se_X7_copies (by decide +kernel) (c_copies z b c') (fun k => k) (by decide) [] rfl rfl rfl rfl rfl (by decide) rfl (show List.Nodup [500, 505, 506] by decide) (fun r ws' hk hp => ?_)
  obtain ⟨rfl, rfl⟩ := hp
  show J x 6 (ad, 0, 0) (4, [(0, .ref 500), (1, .int w)], [], [(500, mO z), (502, a14 h), (505, a28 b), (506, a28 (mcp b)), (511, .inr (.inl (0, gs))), (512, .inr (.inl (0, ls)))])
  refine J.run (sn_X7_fitsWay F) 4 [] (S' := (8, [(0, .ref 500), (1, .int w), (2, .int 1), (3, .int 0)], [], [(500, mO z), (502, a14 h), (505, a28 b), (506, a28 (mcp b)), (511, .inr (.inl (0, gs))), (512, .inr (.inl (0, ls)))])) (ob := []) rfl (ob_n) ?_
  exact H8 c 0 (mcp b) true (mcp_st hst) (by omega) rfl
set_option maxHeartbeats 4000000 in
set_option maxRecDepth 100000 in
theorem c_mfits (z h b c' : Nat → Int32) (gs ls : List Int32) (hgs : gs.length = 7) (hls : ls.length = 7) (c : Nat) (hc : c ≤ 7) (hz : z 14 = nI c) (gN lN : Nat → Nat) (hg : ∀ i, i < c → gi gs i = nI (gN i) ∧ gN i ≤ 9) (hl : ∀ i, i < c → gi ls i = nI (lN i) ∧ lN i ≤ 4) (h0 : 0 < c → ¬ h 0 = 0) (hn : h 0 ≤ 4) (hst : st5 b) (wn : Nat) (hwn : wn < 100000) (hW : mwy (h 0) c = nI wn) : Ctr mk_X7_fits 5 [.ref 500] [(500, mO z), (502, a14 h), (505, a28 b), (506, a28 c'), (511, .inr (.inl (0, gs))), (512, .inr (.inl (0, ls)))] (fun r u => ∃ d' : Nat → Int32, r = some (.int (mN h b gN lN c wn)) ∧ u = [(500, mO z), (502, a14 h), (505, a28 b), (506, a28 d'), (511, .inr (.inl (0, gs))), (512, .inr (.inl (0, ls)))]) := by
  refine Ctr.of rfl (Nat.le_of_ble_eq_true rfl) ?_
  intro x ad F hJ hR
  have H : ∀ (k i : Nat) (e : Nat → Int32), i + k = wn → J x 3 (ad, 0, 0) (4, [(0, .ref 500), (1, .int (mN h b gN lN c i)), (2, .int (nI i))], [], [(500, mO z), (502, a14 h), (505, a28 b), (506, a28 e), (511, .inr (.inl (0, gs))), (512, .inr (.inl (0, ls)))]) := by
    intro k
    induction k with
    | zero =>
      intro i e hi
      have ei : i = wn := by omega
      subst ei
      refine J.run (sn_X7_fits F) 2 [] (S' := (6, [(0, .ref 500), (1, .int (mN h b gN lN c i)), (2, .int (nI i))], [.ref 500, .int (nI i)], [(500, mO z), (502, a14 h), (505, a28 b), (506, a28 e), (511, .inr (.inl (0, gs))), (512, .inr (.inl (0, ls)))])) (ob := []) rfl (ob_n) ?_
      refine J.callV F hJ lk_X7_234 im_X7_ways se_X7_ways (by decide +kernel) (c_ways z h c hc hz) (fun k => k) (by decide) [.int (nI i)] rfl rfl rfl rfl rfl (by decide) rfl (show List.Nodup [500, 502] by decide) (fun r ws' hk hp => ?_)
      obtain ⟨rfl, rfl⟩ := hp
      show J x 3 (ad, 0, 0) (9, [(0, .ref 500), (1, .int (mN h b gN lN c i)), (2, .int (nI i))], [.int (mwy (h 0) c), .int (nI i)], [(500, mO z), (502, a14 h), (505, a28 b), (506, a28 e), (511, .inr (.inl (0, gs))), (512, .inr (.inl (0, ls)))])
      refine J.run (sn_X7_fits F) 2 [1] (S' := (35, [(0, .ref 500), (1, .int (mN h b gN lN c i)), (2, .int (nI i))], [.int (mN h b gN lN c i)], [(500, mO z), (502, a14 h), (505, a28 b), (506, a28 e), (511, .inr (.inl (0, gs))), (512, .inr (.inl (0, ls)))])) (ob := [(mwy (h 0) c) ≤ (nI i)]) rfl (ob_c (by rw [hW]; exact n_le (by omega) (by omega) (by omega)) ob_n) ?_
      exact J.iret F hR (Nat.le_refl _) (Nat.le_refl _) rfl rfl (by decide +kernel) ⟨rfl, keq [500, 502, 505, 506, 511, 512] rfl rfl, e, rfl, rfl⟩
    | succ k ih =>
      intro i e hi
      refine J.run (sn_X7_fits F) 2 [] (S' := (6, [(0, .ref 500), (1, .int (mN h b gN lN c i)), (2, .int (nI i))], [.ref 500, .int (nI i)], [(500, mO z), (502, a14 h), (505, a28 b), (506, a28 e), (511, .inr (.inl (0, gs))), (512, .inr (.inl (0, ls)))])) (ob := []) rfl (ob_n) ?_
      refine J.callV F hJ lk_X7_234 im_X7_ways se_X7_ways (by decide +kernel) (c_ways z h c hc hz) (fun k => k) (by decide) [.int (nI i)] rfl rfl rfl rfl rfl (by decide) rfl (show List.Nodup [500, 502] by decide) (fun r ws' hk hp => ?_)
      obtain ⟨rfl, rfl⟩ := hp
      show J x 3 (ad, 0, 0) (9, [(0, .ref 500), (1, .int (mN h b gN lN c i)), (2, .int (nI i))], [.int (mwy (h 0) c), .int (nI i)], [(500, mO z), (502, a14 h), (505, a28 b), (506, a28 e), (511, .inr (.inl (0, gs))), (512, .inr (.inl (0, ls)))])
      refine J.run (sn_X7_fits F) 4 [0] (S' := (15, [(0, .ref 500), (1, .int (mN h b gN lN c i)), (2, .int (nI i))], [.int (nI i), .ref 500, .int (mN h b gN lN c i)], [(500, mO z), (502, a14 h), (505, a28 b), (506, a28 e), (511, .inr (.inl (0, gs))), (512, .inr (.inl (0, ls)))])) (ob := [¬ (mwy (h 0) c) ≤ (nI i)]) rfl (ob_c (by rw [hW]; exact n_nle (by omega) (by omega) (by omega)) ob_n) ?_
      refine J.callV F hJ lk_X7_238 im_X7_fitsWay se_X7_fitsWay (by decide +kernel) (c_fitsWay z h b e gs ls hgs hls c hc hz gN lN hg hl h0 hn hst (nI i)) (fun k => k) (by decide) [.int (mN h b gN lN c i)] rfl rfl rfl rfl rfl (by decide) rfl (show List.Nodup [500, 502, 505, 506, 511, 512] by decide) (fun r ws' hk hp => ?_)
      obtain ⟨d', rfl, rfl⟩ := hp
      show J x 3 (ad, 0, 0) (18, [(0, .ref 500), (1, .int (mN h b gN lN c i)), (2, .int (nI i))], [.int (b2i (fitB h b gN lN c (nI i))), .int (mN h b gN lN c i)], [(500, mO z), (502, a14 h), (505, a28 b), (506, a28 d'), (511, .inr (.inl (0, gs))), (512, .inr (.inl (0, ls)))])
      cases hb1 : fitB h b gN lN c (nI i)
      · skip
        refine J.run (sn_X7_fits F) 6 [1] (S' := (4, [(0, .ref 500), (1, .int ((mN h b gN lN c i) + 0)), (2, .int ((nI i) + 1))], [], [(500, mO z), (502, a14 h), (505, a28 b), (506, a28 d'), (511, .inr (.inl (0, gs))), (512, .inr (.inl (0, ls)))])) (ob := [(0 : Int32) = 0]) rfl (ob_c (by decide) ob_n) ?_
        exact J.cast (ih (i + 1) d' (by omega)) (by simp only [mN_s, nI_1, hb1, ↓reduceIte, ite_self, Bool.false_eq_true, cond_true, cond_false, Bool.true_and, Bool.false_and, Bool.and_true, Bool.and_false, Bool.true_or, Bool.false_or, Bool.or_true, Bool.or_false, Bool.not_true, Bool.not_false, decide_true, decide_false, b2i_t, b2i_f])
      · skip
        refine J.run (sn_X7_fits F) 7 [0] (S' := (4, [(0, .ref 500), (1, .int ((mN h b gN lN c i) + 1)), (2, .int ((nI i) + 1))], [], [(500, mO z), (502, a14 h), (505, a28 b), (506, a28 d'), (511, .inr (.inl (0, gs))), (512, .inr (.inl (0, ls)))])) (ob := [¬ (1 : Int32) = 0]) rfl (ob_c (by decide) ob_n) ?_
        exact J.cast (ih (i + 1) d' (by omega)) (by simp only [mN_s, nI_1, hb1, ↓reduceIte, ite_self, Bool.false_eq_true, cond_true, cond_false, Bool.true_and, Bool.false_and, Bool.and_true, Bool.and_false, Bool.true_or, Bool.false_or, Bool.or_true, Bool.or_false, Bool.not_true, Bool.not_false, decide_true, decide_false, b2i_t, b2i_f])
  refine J.run (sn_X7_fits F) 4 [] (S' := (4, [(0, .ref 500), (1, .int 0), (2, .int 0)], [], [(500, mO z), (502, a14 h), (505, a28 b), (506, a28 c'), (511, .inr (.inl (0, gs))), (512, .inr (.inl (0, ls)))])) (ob := []) rfl (ob_n) ?_
  exact H wn 0 c' (by omega)
set_option maxHeartbeats 4000000 in
set_option maxRecDepth 100000 in
theorem c_msureO (z h b c' : Nat → Int32) (gs ls : List Int32) (i0 : Int32) (hI : inB i0 0 (z 14 - 1) = false) : Ctr mk_X7_sure 5 [.ref 500, .int i0] [(500, mO z), (502, a14 h), (505, a28 b), (506, a28 c'), (511, .inr (.inl (0, gs))), (512, .inr (.inl (0, ls)))] (fun r u => r = some (.int (-1000000002)) ∧ u = [(500, mO z), (502, a14 h), (505, a28 b), (506, a28 c'), (511, .inr (.inl (0, gs))), (512, .inr (.inl (0, ls)))]) := by
  refine Ctr.of rfl (Nat.le_of_ble_eq_true rfl) ?_
  intro x ad F hJ hR
  refine J.run (sn_X7_sure F) 6 [] (S' := (8, [(0, .ref 500), (1, .int i0)], [.int ((z 14) - 1), .int 0, .int i0], [(500, mO z), (502, a14 h), (505, a28 b), (506, a28 c'), (511, .inr (.inl (0, gs))), (512, .inr (.inl (0, ls)))])) (ob := []) rfl (ob_n) ?_
  refine J.callS F hJ lk_X7_66 st_X7_in (by decide +kernel) (c_in i0 0 ((z 14) - 1)) (fun k => k) (by decide) [] rfl rfl rfl (by decide) rfl (show List.Nodup [] by decide) (fun r ws' hk hp => ?_)
  obtain ⟨rfl, rfl⟩ := hp
  show J x 4 (ad, 0, 0) (11, [(0, .ref 500), (1, .int i0)], [.int (b2i (inB i0 0 ((z 14) - 1)))], [(500, mO z), (502, a14 h), (505, a28 b), (506, a28 c'), (511, .inr (.inl (0, gs))), (512, .inr (.inl (0, ls)))])
  rw [hI]
  refine J.run (sn_X7_sure F) 2 [0] (S' := (16, [(0, .ref 500), (1, .int i0)], [.int (-1000000002)], [(500, mO z), (502, a14 h), (505, a28 b), (506, a28 c'), (511, .inr (.inl (0, gs))), (512, .inr (.inl (0, ls)))])) (ob := [(0 : Int32) = 0]) rfl (ob_c (by decide) ob_n) ?_
  exact J.iret F hR (Nat.le_refl _) (Nat.le_refl _) rfl rfl (by decide +kernel) ⟨rfl, keq [500, 502, 505, 506, 511, 512] rfl rfl, rfl, rfl⟩
set_option maxHeartbeats 4000000 in
set_option maxRecDepth 100000 in
theorem c_msure (z h b c' : Nat → Int32) (gs ls : List Int32) (hgs : gs.length = 7) (hls : ls.length = 7) (c : Nat) (hc : c ≤ 7) (hz : z 14 = nI c) (gN lN : Nat → Nat) (hg : ∀ i, i < c → gi gs i = nI (gN i) ∧ gN i ≤ 9) (hl : ∀ i, i < c → gi ls i = nI (lN i) ∧ lN i ≤ 4) (h0 : 0 < c → ¬ h 0 = 0) (hn : h 0 ≤ 4) (hst : st5 b) (wn : Nat) (hwn : wn < 100000) (hW : mwy (h 0) c = nI wn) (q : Nat) (hqc : q < c) (hI : inB (nI q) 0 (z 14 - 1) = true) : Ctr mk_X7_sure 5 [.ref 500, .int (nI q)] [(500, mO z), (502, a14 h), (505, a28 b), (506, a28 c'), (511, .inr (.inl (0, gs))), (512, .inr (.inl (0, ls)))] (fun r u => ∃ d' : Nat → Int32, r = some (.int (if onI (mU h b gN lN c q wn) = 1 then lst (mU h b gN lN c q wn) else -1)) ∧ u = [(500, mO z), (502, a14 h), (505, a28 b), (506, a28 d'), (511, .inr (.inl (0, gs))), (512, .inr (.inl (0, ls)))]) := by
  refine Ctr.of rfl (Nat.le_of_ble_eq_true rfl) ?_
  intro x ad F hJ hR
  have H : ∀ (k i : Nat) (e : Nat → Int32), i + k = wn → J x 4 (ad, 0, 0) (21, [(0, .ref 500), (1, .int (nI q)), (2, .int (mU h b gN lN c q i)), (3, .int (nI i))], [], [(500, mO z), (502, a14 h), (505, a28 b), (506, a28 e), (511, .inr (.inl (0, gs))), (512, .inr (.inl (0, ls)))]) := by
    intro k
    induction k with
    | zero =>
      intro i e hi
      have ei : i = wn := by omega
      subst ei
      refine J.run (sn_X7_sure F) 2 [] (S' := (23, [(0, .ref 500), (1, .int (nI q)), (2, .int (mU h b gN lN c q i)), (3, .int (nI i))], [.ref 500, .int (nI i)], [(500, mO z), (502, a14 h), (505, a28 b), (506, a28 e), (511, .inr (.inl (0, gs))), (512, .inr (.inl (0, ls)))])) (ob := []) rfl (ob_n) ?_
      refine J.callV F hJ lk_X7_234 im_X7_ways se_X7_ways (by decide +kernel) (c_ways z h c hc hz) (fun k => k) (by decide) [.int (nI i)] rfl rfl rfl rfl rfl (by decide) rfl (show List.Nodup [500, 502] by decide) (fun r ws' hk hp => ?_)
      obtain ⟨rfl, rfl⟩ := hp
      show J x 4 (ad, 0, 0) (26, [(0, .ref 500), (1, .int (nI q)), (2, .int (mU h b gN lN c q i)), (3, .int (nI i))], [.int (mwy (h 0) c), .int (nI i)], [(500, mO z), (502, a14 h), (505, a28 b), (506, a28 e), (511, .inr (.inl (0, gs))), (512, .inr (.inl (0, ls)))])
      refine J.run (sn_X7_sure F) 2 [1] (S' := (59, [(0, .ref 500), (1, .int (nI q)), (2, .int (mU h b gN lN c q i)), (3, .int (nI i))], [.int (mU h b gN lN c q i)], [(500, mO z), (502, a14 h), (505, a28 b), (506, a28 e), (511, .inr (.inl (0, gs))), (512, .inr (.inl (0, ls)))])) (ob := [(mwy (h 0) c) ≤ (nI i)]) rfl (ob_c (by rw [hW]; exact n_le (by omega) (by omega) (by omega)) ob_n) ?_
      refine J.callS F hJ lk_X7_223 st_X7_ones (by decide +kernel) (c_ones (mU h b gN lN c q i)) (fun k => k) (by decide) [] rfl rfl rfl (by decide) rfl (show List.Nodup [] by decide) (fun r ws' hk hp => ?_)
      obtain ⟨rfl, rfl⟩ := hp
      show J x 4 (ad, 0, 0) (62, [(0, .ref 500), (1, .int (nI q)), (2, .int (mU h b gN lN c q i)), (3, .int (nI i))], [.int (onI (mU h b gN lN c q i))], [(500, mO z), (502, a14 h), (505, a28 b), (506, a28 e), (511, .inr (.inl (0, gs))), (512, .inr (.inl (0, ls)))])
      by_cases h1 : (onI (mU h b gN lN c q i)) = 1
      · skip
        refine J.run (sn_X7_sure F) 3 [0] (S' := (67, [(0, .ref 500), (1, .int (nI q)), (2, .int (mU h b gN lN c q i)), (3, .int (nI i))], [.int (mU h b gN lN c q i)], [(500, mO z), (502, a14 h), (505, a28 b), (506, a28 e), (511, .inr (.inl (0, gs))), (512, .inr (.inl (0, ls)))])) (ob := [(onI (mU h b gN lN c q i)) = 1]) rfl (ob_c h1 ob_n) ?_
        refine J.callS F hJ lk_X7_156 st_X7_least (by decide +kernel) (c_least (mU h b gN lN c q i)) (fun k => k) (by decide) [] rfl rfl rfl (by decide) rfl (show List.Nodup [] by decide) (fun r ws' hk hp => ?_)
        obtain ⟨rfl, rfl⟩ := hp
        show J x 4 (ad, 0, 0) (70, [(0, .ref 500), (1, .int (nI q)), (2, .int (mU h b gN lN c q i)), (3, .int (nI i))], [.int (lst (mU h b gN lN c q i))], [(500, mO z), (502, a14 h), (505, a28 b), (506, a28 e), (511, .inr (.inl (0, gs))), (512, .inr (.inl (0, ls)))])
        refine J.run (sn_X7_sure F) 1 [] (S' := (74, [(0, .ref 500), (1, .int (nI q)), (2, .int (mU h b gN lN c q i)), (3, .int (nI i))], [.int (lst (mU h b gN lN c q i))], [(500, mO z), (502, a14 h), (505, a28 b), (506, a28 e), (511, .inr (.inl (0, gs))), (512, .inr (.inl (0, ls)))])) (ob := []) rfl (ob_n) ?_
        exact J.iret F hR (Nat.le_refl _) (Nat.le_refl _) rfl rfl (by decide +kernel) ⟨rfl, keq [500, 502, 505, 506, 511, 512] rfl rfl, e, by simp only [eq_true h1, ↓reduceIte, ite_self, Bool.false_eq_true, cond_true, cond_false, Bool.true_and, Bool.false_and, Bool.and_true, Bool.and_false, Bool.true_or, Bool.false_or, Bool.or_true, Bool.or_false, Bool.not_true, Bool.not_false, decide_true, decide_false, b2i_t, b2i_f], rfl⟩
      · skip
        refine J.run (sn_X7_sure F) 3 [1] (S' := (74, [(0, .ref 500), (1, .int (nI q)), (2, .int (mU h b gN lN c q i)), (3, .int (nI i))], [.int (-1)], [(500, mO z), (502, a14 h), (505, a28 b), (506, a28 e), (511, .inr (.inl (0, gs))), (512, .inr (.inl (0, ls)))])) (ob := [¬ (onI (mU h b gN lN c q i)) = 1]) rfl (ob_c h1 ob_n) ?_
        exact J.iret F hR (Nat.le_refl _) (Nat.le_refl _) rfl rfl (by decide +kernel) ⟨rfl, keq [500, 502, 505, 506, 511, 512] rfl rfl, e, by simp only [h1, ↓reduceIte, ite_self, Bool.false_eq_true, cond_true, cond_false, Bool.true_and, Bool.false_and, Bool.and_true, Bool.and_false, Bool.true_or, Bool.false_or, Bool.or_true, Bool.or_false, Bool.not_true, Bool.not_false, decide_true, decide_false, b2i_t, b2i_f], rfl⟩
    | succ k ih =>
      intro i e hi
      refine J.run (sn_X7_sure F) 2 [] (S' := (23, [(0, .ref 500), (1, .int (nI q)), (2, .int (mU h b gN lN c q i)), (3, .int (nI i))], [.ref 500, .int (nI i)], [(500, mO z), (502, a14 h), (505, a28 b), (506, a28 e), (511, .inr (.inl (0, gs))), (512, .inr (.inl (0, ls)))])) (ob := []) rfl (ob_n) ?_
      refine J.callV F hJ lk_X7_234 im_X7_ways se_X7_ways (by decide +kernel) (c_ways z h c hc hz) (fun k => k) (by decide) [.int (nI i)] rfl rfl rfl rfl rfl (by decide) rfl (show List.Nodup [500, 502] by decide) (fun r ws' hk hp => ?_)
      obtain ⟨rfl, rfl⟩ := hp
      show J x 4 (ad, 0, 0) (26, [(0, .ref 500), (1, .int (nI q)), (2, .int (mU h b gN lN c q i)), (3, .int (nI i))], [.int (mwy (h 0) c), .int (nI i)], [(500, mO z), (502, a14 h), (505, a28 b), (506, a28 e), (511, .inr (.inl (0, gs))), (512, .inr (.inl (0, ls)))])
      refine J.run (sn_X7_sure F) 4 [0] (S' := (32, [(0, .ref 500), (1, .int (nI q)), (2, .int (mU h b gN lN c q i)), (3, .int (nI i))], [.int (nI i), .ref 500, .int (mU h b gN lN c q i)], [(500, mO z), (502, a14 h), (505, a28 b), (506, a28 e), (511, .inr (.inl (0, gs))), (512, .inr (.inl (0, ls)))])) (ob := [¬ (mwy (h 0) c) ≤ (nI i)]) rfl (ob_c (by rw [hW]; exact n_nle (by omega) (by omega) (by omega)) ob_n) ?_
      refine J.callV F hJ lk_X7_238 im_X7_fitsWay se_X7_fitsWay (by decide +kernel) (c_fitsWay z h b e gs ls hgs hls c hc hz gN lN hg hl h0 hn hst (nI i)) (fun k => k) (by decide) [.int (mU h b gN lN c q i)] rfl rfl rfl rfl rfl (by decide) rfl (show List.Nodup [500, 502, 505, 506, 511, 512] by decide) (fun r ws' hk hp => ?_)
      obtain ⟨d', rfl, rfl⟩ := hp
      show J x 4 (ad, 0, 0) (35, [(0, .ref 500), (1, .int (nI q)), (2, .int (mU h b gN lN c q i)), (3, .int (nI i))], [.int (b2i (fitB h b gN lN c (nI i))), .int (mU h b gN lN c q i)], [(500, mO z), (502, a14 h), (505, a28 b), (506, a28 d'), (511, .inr (.inl (0, gs))), (512, .inr (.inl (0, ls)))])
      cases hb1 : fitB h b gN lN c (nI i)
      · skip
        refine J.run (sn_X7_sure F) 6 [1] (S' := (21, [(0, .ref 500), (1, .int (nI q)), (2, .int ((mU h b gN lN c q i) ||| 0)), (3, .int ((nI i) + 1))], [], [(500, mO z), (502, a14 h), (505, a28 b), (506, a28 d'), (511, .inr (.inl (0, gs))), (512, .inr (.inl (0, ls)))])) (ob := [(0 : Int32) = 0]) rfl (ob_c (by decide) ob_n) ?_
        exact J.cast (ih (i + 1) d' (by omega)) (by simp only [mU_s, nI_1, hb1, ↓reduceIte, ite_self, Bool.false_eq_true, cond_true, cond_false, Bool.true_and, Bool.false_and, Bool.and_true, Bool.and_false, Bool.true_or, Bool.false_or, Bool.or_true, Bool.or_false, Bool.not_true, Bool.not_false, decide_true, decide_false, b2i_t, b2i_f])
      · skip
        refine J.run (sn_X7_sure F) 5 [0] (S' := (42, [(0, .ref 500), (1, .int (nI q)), (2, .int (mU h b gN lN c q i)), (3, .int (nI i))], [.int (nI q), .int (nI i), .ref 500, .int 1, .int (mU h b gN lN c q i)], [(500, mO z), (502, a14 h), (505, a28 b), (506, a28 d'), (511, .inr (.inl (0, gs))), (512, .inr (.inl (0, ls)))])) (ob := [¬ (1 : Int32) = 0]) rfl (ob_c (by decide) ob_n) ?_
        refine J.callV F hJ lk_X7_230 im_X7_speaker se_X7_speaker (by decide +kernel) (c_speaker z h (nI i) q (by omega) (h0 (by omega))) (fun k => k) (by decide) [.int 1, .int (mU h b gN lN c q i)] rfl rfl rfl rfl rfl (by decide) rfl (show List.Nodup [500, 502] by decide) (fun r ws' hk hp => ?_)
        obtain ⟨rfl, rfl⟩ := hp
        show J x 4 (ad, 0, 0) (45, [(0, .ref 500), (1, .int (nI q)), (2, .int (mU h b gN lN c q i)), (3, .int (nI i))], [.int (spI (h 0) (nI i) q), .int 1, .int (mU h b gN lN c q i)], [(500, mO z), (502, a14 h), (505, a28 b), (506, a28 d'), (511, .inr (.inl (0, gs))), (512, .inr (.inl (0, ls)))])
        refine J.run (sn_X7_sure F) 6 [] (S' := (21, [(0, .ref 500), (1, .int (nI q)), (2, .int ((mU h b gN lN c q i) ||| ((1 : Int32) <<< ((spI (h 0) (nI i) q) &&& 31)))), (3, .int ((nI i) + 1))], [], [(500, mO z), (502, a14 h), (505, a28 b), (506, a28 d'), (511, .inr (.inl (0, gs))), (512, .inr (.inl (0, ls)))])) (ob := []) rfl (ob_n) ?_
        exact J.cast (ih (i + 1) d' (by omega)) (by simp only [mU_s, nI_1, hb1, ↓reduceIte, ite_self, Bool.false_eq_true, cond_true, cond_false, Bool.true_and, Bool.false_and, Bool.and_true, Bool.and_false, Bool.true_or, Bool.false_or, Bool.or_true, Bool.or_false, Bool.not_true, Bool.not_false, decide_true, decide_false, b2i_t, b2i_f])
  refine J.run (sn_X7_sure F) 6 [] (S' := (8, [(0, .ref 500), (1, .int (nI q))], [.int ((z 14) - 1), .int 0, .int (nI q)], [(500, mO z), (502, a14 h), (505, a28 b), (506, a28 c'), (511, .inr (.inl (0, gs))), (512, .inr (.inl (0, ls)))])) (ob := []) rfl (ob_n) ?_
  refine J.callS F hJ lk_X7_66 st_X7_in (by decide +kernel) (c_in (nI q) 0 ((z 14) - 1)) (fun k => k) (by decide) [] rfl rfl rfl (by decide) rfl (show List.Nodup [] by decide) (fun r ws' hk hp => ?_)
  obtain ⟨rfl, rfl⟩ := hp
  show J x 4 (ad, 0, 0) (11, [(0, .ref 500), (1, .int (nI q))], [.int (b2i (inB (nI q) 0 ((z 14) - 1)))], [(500, mO z), (502, a14 h), (505, a28 b), (506, a28 c'), (511, .inr (.inl (0, gs))), (512, .inr (.inl (0, ls)))])
  rw [hI]
  refine J.run (sn_X7_sure F) 5 [1] (S' := (21, [(0, .ref 500), (1, .int (nI q)), (2, .int 0), (3, .int 0)], [], [(500, mO z), (502, a14 h), (505, a28 b), (506, a28 c'), (511, .inr (.inl (0, gs))), (512, .inr (.inl (0, ls)))])) (ob := [¬ (1 : Int32) = 0]) rfl (ob_c (by decide) ob_n) ?_
  exact H wn 0 c' (by omega)
