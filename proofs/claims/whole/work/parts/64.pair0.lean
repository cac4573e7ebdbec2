/-! what holds from call to call, and the end of a call -/
def Rc (gs ls : List Int32) (c : Nat) : Prop := (∀ i, i < c → ∃ g, g ≤ 9 ∧ gi gs i = nI g) ∧ (∀ i, i < c → ∃ l, 1 ≤ l ∧ l ≤ 4 ∧ gi ls i = nI l)
def Iv (m : Nat) (s : S9) : Prop := (s.ty.length = 400 ∧ s.tx.length = 400 ∧ s.t ≤ 400 ∧ tyR s.tx s.ty s.t) ∧ (s.ps.length = 30 ∧ s.n ≤ 30) ∧ (s.gs.length = 7 ∧ s.ls.length = 7 ∧ s.c ≤ 7 ∧ Rc s.gs s.ls s.c) ∧ (s.st9.length = 50625 ∧ s.mt9.length = 50625) ∧ Hx s.h ∧ GM (98901 * m) s.h s.b ∧ (s.k0 = true → GM (98901 * m) s.h s.p) ∧ (s.k1 = true → GM (98901 * m) s.h s.q)
theorem Iv.up {m : Nat} {s : S9} (I : Iv m s) : Iv (m + 1) s := by
  obtain ⟨i1, i2, i3, i4, i5, i6, i7, i8⟩ := I
  exact ⟨i1, i2, i3, i4, i5, i6.mono (by omega), fun q => (i7 q).mono (by omega), fun q => (i8 q).mono (by omega)⟩
def Nxt (x : Cx) (g : (Nat → Nat) × Nat × Nat) (j m : Nat) : Prop := ∀ s, Iv (m + 1) s → J x 4 g (773, [(0, .ref 900), (1, .ref 0), (2, .ref 500), (3, .int (nI (4 * j)))], [], WD9 s)
theorem fin9 {x : Cx} {g : (Nat → Nat) × Nat × Nat} {j m : Nat} (K : Nxt x g j m) {ks1 ks2 : List Nat} {u1 u2 : Pw} {s : S9} (s' : S9) (h1 : ks1.all (fun k => Nat.blt k 200 || Nat.ble 400 k) = true) (h2 : ks2.all (fun k => Nat.blt k 200 || Nat.ble 400 k) = true) (bc : Nat → Int32) (E : Eq25 bc s'.b) (e : putW ks2 u2 (putW ks1 u1 (LC9 s)) = LCX s' bc) (er : ARW s.rb s.rs = ARW s'.rb s'.rs) (I : Iv (m + 1) s') : J x 4 g (773, [(0, .ref 900), (1, .ref 0), (2, .ref 500), (3, .int (nI (4 * j)))], [], putW ks2 u2 (putW ks1 u1 (WD9 s))) := by
  have h : putW ks2 u2 (putW ks1 u1 (WD9 s)) = WD9 s' := by
    unfold WD9
    rw [putW_app h1, putW_app h2, e, er, LCX_25 E]
    rfl
  rw [h]
  exact K s' I
theorem imB_4 {m n : Int32} (h : imB m n = true) : m = 0 ∨ m = 1 ∨ m = 2 ∨ m = 3 := by
  obtain ⟨h1, h2⟩ := Bool.and_eq_true_iff.mp h
  obtain ⟨h2, h3⟩ := Bool.and_eq_true_iff.mp h2
  exact in4 (of_decide_eq_false (Bool.not_eq_true' _ ▸ h1)) (of_decide_eq_false (Bool.not_eq_true' _ ▸ h2))
theorem in_12 {x : Int32} (h : inB x 0 11 = true) : x = 0 ∨ x = 1 ∨ x = 2 ∨ x = 3 ∨ x = 4 ∨ x = 5 ∨ x = 6 ∨ x = 7 ∨ x = 8 ∨ x = 9 ∨ x = 10 ∨ x = 11 := by
  obtain ⟨j, -, hj, rfl⟩ := inB_ex (l := 0) (u := 11) (by decide) (by decide) h
  exact (by decide +kernel : ∀ j, j < 12 → nI j = 0 ∨ nI j = 1 ∨ nI j = 2 ∨ nI j = 3 ∨ nI j = 4 ∨ nI j = 5 ∨ nI j = 6 ∨ nI j = 7 ∨ nI j = 8 ∨ nI j = 9 ∨ nI j = 10 ∨ nI j = 11) j (by omega)
theorem in_8 {x : Int32} (h : inB x 0 7 = true) : x = 0 ∨ x = 1 ∨ x = 2 ∨ x = 3 ∨ x = 4 ∨ x = 5 ∨ x = 6 ∨ x = 7 := by
  obtain ⟨j, -, hj, rfl⟩ := inB_ex (l := 0) (u := 7) (by decide) (by decide) h
  exact (by decide +kernel : ∀ j, j < 8 → nI j = 0 ∨ nI j = 1 ∨ nI j = 2 ∨ nI j = 3 ∨ nI j = 4 ∨ nI j = 5 ∨ nI j = 6 ∨ nI j = 7) j (by omega)
theorem in_18 {x : Int32} (h : inB x 1 8 = true) : x = 1 ∨ x = 2 ∨ x = 3 ∨ x = 4 ∨ x = 5 ∨ x = 6 ∨ x = 7 ∨ x = 8 := by
  obtain ⟨j, h1, hj, rfl⟩ := inB_ex (l := 1) (u := 8) (by decide) (by decide) h
  exact (by decide +kernel : ∀ j, j < 9 → 1 ≤ j → nI j = 1 ∨ nI j = 2 ∨ nI j = 3 ∨ nI j = 4 ∨ nI j = 5 ∨ nI j = 6 ∨ nI j = 7 ∨ nI j = 8) j (by omega) h1
theorem in_4 {x : Int32} (h : inB x 0 3 = true) : x = 0 ∨ x = 1 ∨ x = 2 ∨ x = 3 := by
  obtain ⟨j, -, hj, rfl⟩ := inB_ex (l := 0) (u := 3) (by decide) (by decide) h
  exact (by decide +kernel : ∀ j, j < 4 → nI j = 0 ∨ nI j = 1 ∨ nI j = 2 ∨ nI j = 3) j (by omega)
theorem in_2 {x : Int32} (h : inB x 0 1 = true) : x = 0 ∨ x = 1 := by
  obtain ⟨j, -, hj, rfl⟩ := inB_ex (l := 0) (u := 1) (by decide) (by decide) h
  exact (by decide +kernel : ∀ j, j < 2 → nI j = 0 ∨ nI j = 1) j (by omega)
theorem inB_lo {x l u : Int32} (h : x < l) : inB x l u = false := by unfold inB; rw [decide_eq_true h]; rfl
theorem inB_hi {x l u : Int32} (h : u < x) : inB x l u = false := by unfold inB; rw [decide_eq_true h, Bool.not_true, Bool.and_false]
theorem inB_ok {x l u : Int32} (h1 : ¬ x < l) (h2 : ¬ u < x) : inB x l u = true := by unfold inB; rw [decide_eq_false h1, decide_eq_false h2]; rfl
theorem inB_sp {x l u : Int32} (h : inB x l u = false) : x < l ∨ (¬ x < l ∧ u < x) := by
  by_cases h1 : x < l
  · exact Or.inl h1
  · by_cases h2 : u < x
    · exact Or.inr ⟨h1, h2⟩
    · rw [inB_ok h1 h2] at h; cases h
theorem inB_b {x l u : Int32} (h : inB x l u = true) : ¬ x < l ∧ ¬ u < x := by
  obtain ⟨h1, h2⟩ := Bool.and_eq_true_iff.mp h
  exact ⟨of_decide_eq_false (Bool.not_eq_true' _ ▸ h1), of_decide_eq_false (Bool.not_eq_true' _ ▸ h2)⟩
theorem inB_toInt {x l u : Int32} (h : inB x l u = false) : x.toInt < l.toInt ∨ u.toInt < x.toInt := by
  rcases inB_sp h with h | h
  · exact Or.inl (Int32.lt_iff_toInt_lt.mp h)
  · exact Or.inr (Int32.lt_iff_toInt_lt.mp h.2)
theorem min_sw (x y : Int32) : (if x < y then x else y) = if y < x then y else x := by
  by_cases h : x < y
  · rw [if_pos h, if_neg (fun q => Int32.lt_irrefl (Int32.lt_trans h q))]
  · by_cases h2 : y < x
    · rw [if_neg h, if_pos h2]
    · rw [if_neg h, if_neg h2]
      exact Int32.le_antisymm (Int32.not_lt.mp h) (Int32.not_lt.mp h2)
theorem sI {a b : Int32} (h : a = b) : (some (Value.int a)) = some (Value.int b) := by rw [h]
