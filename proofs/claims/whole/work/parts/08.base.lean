/-! small words of the walks -/
def ixb (i : Int32) (k n : Nat) : Bool := decide (¬ (i < 0 ∨ n ≤ i.toNatClampNeg)) && Nat.beq i.toNatClampNeg k
theorem ix_of {i : Int32} {k n : Nat} (h : ixb i k n = true) : ix i k n := by
  obtain ⟨h1, h2⟩ := Bool.and_eq_true_iff.mp h
  exact ⟨of_decide_eq_true (p := ¬ (i < 0 ∨ n ≤ i.toNatClampNeg)) h1, Nat.eq_of_beq_eq_true h2⟩
theorem ix_len {α : Type} {L : List α} {i : Int32} {k n : Nat} (h : L.length = n) (hx : ix i k n) : ix i k L.length := by rw [h]; exact hx
theorem ix_eq {i j : Int32} {k n : Nat} (h : i = j) (hx : ix j k n) : ix i k n := by rw [h]; exact hx
theorem ix_nI {k n : Nat} (h : k < n) (hn : n < 2 ^ 31) : ix (nI k) k n := ⟨vp_in_nI h hn, by
  have e1 : (nI k).toInt = k := by
    show (Int32.ofNat k).toInt = k
    rw [Int32.toInt_ofNat_of_lt (by omega)]
  show (nI k).toInt.toNat = k
  rw [e1]
  rfl⟩
theorem in4 {x : Int32} (h1 : ¬ x < 0) (h2 : ¬ 4 ≤ x) : x = 0 ∨ x = 1 ∨ x = 2 ∨ x = 3 := by
  have e1 : 0 ≤ x.toInt := by
    have := Int32.not_lt.mp h1
    simpa [Int32.le_iff_toInt_le] using this
  have e2 : x.toInt < 4 := by
    have := Int32.not_le.mp h2
    simpa [Int32.lt_iff_toInt_lt] using this
  have e3 : x.toInt = 0 ∨ x.toInt = 1 ∨ x.toInt = 2 ∨ x.toInt = 3 := by omega
  rcases e3 with e | e | e | e
  · exact Or.inl (Int32.toInt_inj.mp (by rw [e]; rfl))
  · exact Or.inr (Or.inl (Int32.toInt_inj.mp (by rw [e]; rfl)))
  · exact Or.inr (Or.inr (Or.inl (Int32.toInt_inj.mp (by rw [e]; rfl))))
  · exact Or.inr (Or.inr (Or.inr (Int32.toInt_inj.mp (by rw [e]; rfl))))
theorem le_lit {x a b : Int32} (h : x ≤ a) (hab : a ≤ b) : x ≤ b := Int32.le_trans h hab
theorem J.cast {x : Cx} {nL : Nat} {g : (Nat → Nat) × Nat × Nat} {S S' : Sx} (h : J x nL g S') (e : S = S') : J x nL g S := by rw [e]; exact h
def b2i (b : Bool) : Int32 := bif b then 1 else 0
theorem b2i_t : b2i true = 1 := rfl
theorem b2i_f : b2i false = 0 := rfl
def hB (s k : Int32) : Bool := decide ((s >>> (k &&& 31)) &&& 1 = 1)
def sm : List (Nat × Nat) → Nat → Nat
  | [], k => k
  | q :: l, k => bif (Nat.ble q.1 k && Nat.blt k (q.1 + 5)) then q.2 + (k - q.1) else sm l k
/-! what a beat does, on a book: 0 kind, 1 c, 2 o, 3 beat, 4 said, 5 spoke, 6 since, 7 stopped, 8 unpaid, 9 air, 13 rests, 17 words, 21 owed; the house: 0 members, 1 cough, 2 breath, 6 rest, 10 words, 14 kind, 15 c, 16 o -/
def canB (a w : Int32) : Bool := !decide (a ≤ 0) && !decide (w ≤ 0)
def trA (b t a e : Int32) : Int32 := if b ≤ a then a else if t ≤ e + 1 then a + 1 else a
def trR (b t a e : Int32) : Int32 := if b ≤ a then e else if t ≤ e + 1 then 0 else e + 1
def spk (b : Nat → Int32) (s : Int32) (m : Nat) : Bool := hB s (nI m) && canB (b (9 + m)) (b (17 + m))
def bU (f : Nat → Bool) : Nat → Int32
  | 0 => 0
  | m + 1 => bif f m then bU f m ||| (1 <<< (nI m &&& 31)) else bU f m
theorem bU_1 (f : Nat → Bool) : bU f 1 = bif f 0 then 0 ||| ((1 : Int32) <<< ((0 : Int32) &&& 31)) else 0 := rfl
theorem bU_2 (f : Nat → Bool) : bU f 2 = bif f 1 then bU f 1 ||| ((1 : Int32) <<< ((1 : Int32) &&& 31)) else bU f 1 := rfl
theorem bU_3 (f : Nat → Bool) : bU f 3 = bif f 2 then bU f 2 ||| ((1 : Int32) <<< ((2 : Int32) &&& 31)) else bU f 2 := rfl
theorem bU_4 (f : Nat → Bool) : bU f 4 = bif f 3 then bU f 3 ||| ((1 : Int32) <<< ((3 : Int32) &&& 31)) else bU f 3 := rfl
theorem spk_0 (b : Nat → Int32) (s : Int32) : spk b s 0 = (hB s 0 && canB (b 9) (b 17)) := rfl
theorem spk_1 (b : Nat → Int32) (s : Int32) : spk b s 1 = (hB s 1 && canB (b 10) (b 18)) := rfl
theorem spk_2 (b : Nat → Int32) (s : Int32) : spk b s 2 = (hB s 2 && canB (b 11) (b 19)) := rfl
theorem spk_3 (b : Nat → Int32) (s : Int32) : spk b s 3 = (hB s 3 && canB (b 12) (b 20)) := rfl
def nA (f : Bool) (b t a e : Int32) : Int32 := bif f then a - 1 else trA b t a e
def nE (f : Bool) (b t a e : Int32) : Int32 := bif f then 0 else trR b t a e
def nW (f : Bool) (w : Int32) : Int32 := bif f then w - 1 else w
def psU (k u : Int32) : Int32 := if k = 1 then u + 1 else u
def ptO (c n j o : Int32) : Int32 := if n ≤ j then o else o + c / n
def psO (k st c n j o : Int32) : Int32 := if k = 1 then o else if k = 2 then (if n ≤ 0 then o else ptO c n j o) else if st = j then o + c else o
def lst (s : Int32) : Int32 := bif hB s 0 then 0 else bif hB s 1 then 1 else bif hB s 2 then 2 else bif hB s 3 then 3 else -1
def pkO (s : Int32) (f : Bool) (j c u o x : Int32) : Int32 := bif hB s j then (bif f then x + o else x + c * u) else x
def who (b : Nat → Int32) (s : Int32) : Int32 := bU (spk b s) 4
def play (h b : Nat → Int32) (s : Int32) : Nat → Int32 := gi [b 0, b 1, b 2, b 3 + 1,
  if who b s = 0 then b 4 else b 4 + 1, who b s, if who b s = 0 then b 6 + 1 else 0,
  if who b s = 0 then b 7 else lst (who b s), if who b s = 0 then psU (b 0) (b 8) else 0,
  nA (spk b s 0) (h 2) (h 6) (b 9) (b 13), nA (spk b s 1) (h 3) (h 7) (b 10) (b 14), nA (spk b s 2) (h 4) (h 8) (b 11) (b 15), nA (spk b s 3) (h 5) (h 9) (b 12) (b 16),
  nE (spk b s 0) (h 2) (h 6) (b 9) (b 13), nE (spk b s 1) (h 3) (h 7) (b 10) (b 14), nE (spk b s 2) (h 4) (h 8) (b 11) (b 15), nE (spk b s 3) (h 5) (h 9) (b 12) (b 16),
  nW (spk b s 0) (b 17), nW (spk b s 1) (b 18), nW (spk b s 2) (b 19), nW (spk b s 3) (b 20),
  if who b s = 0 then psO (b 0) (b 7) (b 1) (h 0) 0 (b 21) else pkO (who b s) false 0 (b 1) (b 8) (b 2) (b 21),
  if who b s = 0 then psO (b 0) (b 7) (b 1) (h 0) 1 (b 22) else pkO (who b s) (hB (who b s) 0) 1 (b 1) (b 8) (b 2) (b 22),
  if who b s = 0 then psO (b 0) (b 7) (b 1) (h 0) 2 (b 23) else pkO (who b s) (hB (who b s) 0 || hB (who b s) 1) 2 (b 1) (b 8) (b 2) (b 23),
  if who b s = 0 then psO (b 0) (b 7) (b 1) (h 0) 3 (b 24) else pkO (who b s) (hB (who b s) 0 || hB (who b s) 1 || hB (who b s) 2) 3 (b 1) (b 8) (b 2) (b 24)]
def nxt (sd : Int32) : Int32 := Int64.toInt32 ((Int32.toInt64 sd * 1103515245 + 12345) &&& 2147483647)
def drw (sd k : Int32) : Int32 := nxt sd / 65536 - nxt sd / 65536 / k * k
def dsV (h b : Nat → Int32) (m : Nat) (sd : Int32) : Bool := bif hB (b 5) (nI m) then decide (h 1 ≤ drw sd 100) else decide (drw sd 8 = 0)
def dsS (h b : Nat → Int32) (sd : Int32) : Nat → Int32 × Int32
  | 0 => (0, sd)
  | m + 1 => bif canB (b (9 + m)) (b (17 + m)) then (bif dsV h b m (dsS h b sd m).2 then (dsS h b sd m).1 ||| (1 <<< (nI m &&& 31)) else (dsS h b sd m).1, nxt (dsS h b sd m).2) else dsS h b sd m
theorem f_lt {x y : Int32} (h : x < y) : ¬ y ≤ x := Int32.not_le.mpr h
theorem f_nlt {x y : Int32} (h : ¬ x < y) : y ≤ x := Int32.not_lt.mp h
theorem f_le {x y : Int32} (h : x ≤ y) : ¬ y < x := Int32.not_lt.mpr h
theorem f_nle {x y : Int32} (h : ¬ x ≤ y) : y < x := Int32.not_le.mp h
theorem dsS_1 (h b : Nat → Int32) (sd : Int32) : dsS h b sd 1 = bif canB (b 9) (b 17) then (bif (bif hB (b 5) 0 then decide (h 1 ≤ drw (dsS h b sd 0).2 100) else decide (drw (dsS h b sd 0).2 8 = 0)) then (dsS h b sd 0).1 ||| ((1 : Int32) <<< ((0 : Int32) &&& 31)) else (dsS h b sd 0).1, nxt (dsS h b sd 0).2) else dsS h b sd 0 := rfl
theorem dsS_2 (h b : Nat → Int32) (sd : Int32) : dsS h b sd 2 = bif canB (b 10) (b 18) then (bif (bif hB (b 5) 1 then decide (h 1 ≤ drw (dsS h b sd 1).2 100) else decide (drw (dsS h b sd 1).2 8 = 0)) then (dsS h b sd 1).1 ||| ((1 : Int32) <<< ((1 : Int32) &&& 31)) else (dsS h b sd 1).1, nxt (dsS h b sd 1).2) else dsS h b sd 1 := rfl
theorem dsS_3 (h b : Nat → Int32) (sd : Int32) : dsS h b sd 3 = bif canB (b 11) (b 19) then (bif (bif hB (b 5) 2 then decide (h 1 ≤ drw (dsS h b sd 2).2 100) else decide (drw (dsS h b sd 2).2 8 = 0)) then (dsS h b sd 2).1 ||| ((1 : Int32) <<< ((2 : Int32) &&& 31)) else (dsS h b sd 2).1, nxt (dsS h b sd 2).2) else dsS h b sd 2 := rfl
theorem dsS_4 (h b : Nat → Int32) (sd : Int32) : dsS h b sd 4 = bif canB (b 12) (b 20) then (bif (bif hB (b 5) 3 then decide (h 1 ≤ drw (dsS h b sd 3).2 100) else decide (drw (dsS h b sd 3).2 8 = 0)) then (dsS h b sd 3).1 ||| ((1 : Int32) <<< ((3 : Int32) &&& 31)) else (dsS h b sd 3).1, nxt (dsS h b sd 3).2) else dsS h b sd 3 := rfl
def oT (b : Nat → Int32) : Int32 := 0 + b 21 + b 22 + b 23 + b 24
def opn (h : Nat → Int32) : Nat → Int32 := gi [h 14, h 15, h 16, 0, 0, 0, 0, -1, 0, h 2, h 3, h 4, h 5, 0, 0, 0, 0, h 10, h 11, h 12, h 13, 0, 0, 0, 0]
theorem keq {A B : Pw} (k : List Nat) (h1 : A.map Prod.fst = k) (h2 : B.map Prod.fst = k) : A.map Prod.fst = B.map Prod.fst := h1.trans h2.symm
theorem J.lv {x : Cx} {nL : Nat} {g : (Nat → Nat) × Nat × Nat} {pc : Nat} {lv lv' : List (Nat × Value)} {st : List Value} {ws : Pw} (ks : List Nat) (h : ks.filterMap (fun k => lv[k]?) = lv') (k : J x nL g (pc, lv', st, ws)) : J x nL g (pc, lv, st, ws) := by
  obtain ⟨p, l, e, R, s, m, args, below, meth, c, D, cA, A, Q⟩ := x
  intro H locs ls hl hP hD hS hG
  refine k H locs ls ⟨hl.1, hl.2.1, fun q hq => hl.2.2 q ?_⟩ hP hD hS hG
  obtain ⟨z, hz, rfl⟩ := List.mem_map.mp hq
  rw [← h] at hz
  obtain ⟨i, -, hi⟩ := List.mem_filterMap.mp hz
  exact List.mem_map.mpr ⟨z, List.mem_of_getElem? hi, rfl⟩
theorem hB_t {s k : Int32} (h : hB s k = true) : (s >>> (k &&& 31)) &&& 1 = 1 := of_decide_eq_true h
theorem hB_f {s k : Int32} (h : hB s k = false) : ¬ (s >>> (k &&& 31)) &&& 1 = 1 := of_decide_eq_false h
