/-! what holds from call to call, and the end of a call -/
def Rc (gs ls : List Int32) (c : Nat) : Prop := (∀ i, i < c → ∃ g, g ≤ 9 ∧ gi gs i = nI g) ∧ (∀ i, i < c → ∃ l, 1 ≤ l ∧ l ≤ 4 ∧ gi ls i = nI l)
def IvF (m : Nat) (h b p q pm qm : Nat → Int32) (ty tx ps gs ls st9 mt9 : List Int32) (t n c : Nat) (k0 k1 : Bool) : Prop := (ty.length = 400 ∧ tx.length = 400 ∧ t ≤ 400 ∧ tyR tx ty t) ∧ (ps.length = 30 ∧ n ≤ 30) ∧ (gs.length = 7 ∧ ls.length = 7 ∧ c ≤ 7 ∧ Rc gs ls c) ∧ (st9.length = 50625 ∧ mt9.length = 50625) ∧ Hx h ∧ GM (98901 * m) h b ∧ (k0 = true → pm = p ∧ GM (98901 * m) h p) ∧ (k1 = true → qm = q ∧ GM (98901 * m) h q)
def Iv (m : Nat) (s : S9) : Prop := IvF m s.h s.b s.p s.q s.pm s.qm s.ty s.tx s.ps s.gs s.ls s.st9 s.mt9 s.t s.n s.c s.k0 s.k1
theorem Iv_mk9 {m : Nat} (h : Nat → Int32) (dh : Nat → Int32) (b : Nat → Int32) (tb : Nat → Int32) (p : Nat → Int32) (q : Nat → Int32) (pm : Nat → Int32) (qm : Nat → Int32) (nb : Nat → Int32) (w32 : Nat → Int32) (v32 : Nat → Int32) (y28 : Nat → Int32) (ot : Nat → Int32) (dl : Nat → Int32) (rb : Nat → Nat → Int32) (rs : Nat → Int32) (ty : List Int32) (tx : List Int32) (ps : List Int32) (gs : List Int32) (ls : List Int32) (st9 : List Int32) (mt9 : List Int32) (sd : Int32) (ts : Int32) (s0 : Int32) (s1 : Int32) (fp : Int32) (fd : Int32) (lt : Int32) (ct : Int32) (g2 : Int32) (g3 : Int32) (g4 : Int32) (g5 : Int32) (a2 : Int32) (a3 : Int32) (a4 : Int32) (e0 : Int32) (e1 : Int32) (e2 : Int32) (m18 : Int32) (m21 : Int32) (m22 : Int32) (m23 : Int32) (m26 : Int32) (ab : Int64) (t : Nat) (ra : Nat) (n : Nat) (c : Nat) (m17 : Nat) (m19 : Nat) (m20 : Nat) (k0 : Bool) (k1 : Bool) (I : IvF m h b p q pm qm ty tx ps gs ls st9 mt9 t n c k0 k1) : Iv m (mk9 h dh b tb p q pm qm nb w32 v32 y28 ot dl rb rs ty tx ps gs ls st9 mt9 sd ts s0 s1 fp fd lt ct g2 g3 g4 g5 a2 a3 a4 e0 e1 e2 m18 m21 m22 m23 m26 ab t ra n c m17 m19 m20 k0 k1) := I
theorem Iv.up {m : Nat} {s : S9} (I : Iv m s) : IvF (m + 1) s.h s.b s.p s.q s.pm s.qm s.ty s.tx s.ps s.gs s.ls s.st9 s.mt9 s.t s.n s.c s.k0 s.k1 := by
  obtain ⟨i1, i2, i3, i4, i5, i6, i7, i8⟩ := I
  exact ⟨i1, i2, i3, i4, i5, i6.mono (by omega), fun q => ⟨(i7 q).1, (i7 q).2.mono (by omega)⟩, fun q => ⟨(i8 q).1, (i8 q).2.mono (by omega)⟩⟩
def Nxt (x : Cx) (g : (Nat → Nat) × Nat × Nat) (j m : Nat) : Prop := ∀ s, Iv (m + 1) s → J x 4 g (773, [(0, .ref 900), (1, .ref 0), (2, .ref 500), (3, .int (nI (4 * j)))], [], WD9 s)
theorem fin9 {x : Cx} {g : (Nat → Nat) × Nat × Nat} {j m : Nat} (K : Nxt x g j m) {ks1 ks2 : List Nat} {u1 u2 : Pw} {s : S9} (h : Nat → Int32) (dh : Nat → Int32) (b : Nat → Int32) (tb : Nat → Int32) (p : Nat → Int32) (q : Nat → Int32) (pm : Nat → Int32) (qm : Nat → Int32) (nb : Nat → Int32) (w32 : Nat → Int32) (v32 : Nat → Int32) (y28 : Nat → Int32) (ot : Nat → Int32) (dl : Nat → Int32) (rb : Nat → Nat → Int32) (rs : Nat → Int32) (ty : List Int32) (tx : List Int32) (ps : List Int32) (gs : List Int32) (ls : List Int32) (st9 : List Int32) (mt9 : List Int32) (sd : Int32) (ts : Int32) (s0 : Int32) (s1 : Int32) (fp : Int32) (fd : Int32) (lt : Int32) (ct : Int32) (g2 : Int32) (g3 : Int32) (g4 : Int32) (g5 : Int32) (a2 : Int32) (a3 : Int32) (a4 : Int32) (e0 : Int32) (e1 : Int32) (e2 : Int32) (m18 : Int32) (m21 : Int32) (m22 : Int32) (m23 : Int32) (m26 : Int32) (ab : Int64) (t : Nat) (ra : Nat) (n : Nat) (c : Nat) (m17 : Nat) (m19 : Nat) (m20 : Nat) (k0 : Bool) (k1 : Bool) (h1 : ks1.all (fun k => Nat.blt k 200 || Nat.ble 400 k) = true) (h2 : ks2.all (fun k => Nat.blt k 200 || Nat.ble 400 k) = true) (bc : Nat → Int32) (E : Eq25 bc b) (e : putW ks2 u2 (putW ks1 u1 (LC9 s)) = LCL h dh b tb p q pm qm nb w32 v32 y28 ot dl rb rs ty tx ps gs ls st9 mt9 sd ts s0 s1 fp fd lt ct g2 g3 g4 g5 a2 a3 a4 e0 e1 e2 m18 m21 m22 m23 m26 ab t ra n c m17 m19 m20 k0 k1 bc) (er : ARW s.rb s.rs = ARW rb rs) (I : IvF (m + 1) h b p q pm qm ty tx ps gs ls st9 mt9 t n c k0 k1) : J x 4 g (773, [(0, .ref 900), (1, .ref 0), (2, .ref 500), (3, .int (nI (4 * j)))], [], putW ks2 u2 (putW ks1 u1 (WD9 s))) := by
  have hWE : putW ks2 u2 (putW ks1 u1 (WD9 s)) = WD9 (mk9 h dh b tb p q pm qm nb w32 v32 y28 ot dl rb rs ty tx ps gs ls st9 mt9 sd ts s0 s1 fp fd lt ct g2 g3 g4 g5 a2 a3 a4 e0 e1 e2 m18 m21 m22 m23 m26 ab t ra n c m17 m19 m20 k0 k1) := by
    unfold WD9
    rw [putW_app h1, putW_app h2, e, er, ← LCX_mk9, LCX_25 E]
    rfl
  rw [hWE]
  exact K _ (Iv_mk9 h dh b tb p q pm qm nb w32 v32 y28 ot dl rb rs ty tx ps gs ls st9 mt9 sd ts s0 s1 fp fd lt ct g2 g3 g4 g5 a2 a3 a4 e0 e1 e2 m18 m21 m22 m23 m26 ab t ra n c m17 m19 m20 k0 k1 I)
theorem fin8 {x : Cx} {g : (Nat → Nat) × Nat × Nat} {j m : Nat} (K : Nxt x g j m) {ks1 ks2 : List Nat} {u1 u2 : Pw} {s : S9} (h1 : ks1.all (fun k => Nat.blt k 200 || Nat.ble 400 k) = true) (h2 : ks2.all (fun k => Nat.blt k 200 || Nat.ble 400 k) = true) (e : putW ks2 u2 (putW ks1 u1 (LC9 s)) = LC9 s) (I : IvF (m + 1) s.h s.b s.p s.q s.pm s.qm s.ty s.tx s.ps s.gs s.ls s.st9 s.mt9 s.t s.n s.c s.k0 s.k1) : J x 4 g (773, [(0, .ref 900), (1, .ref 0), (2, .ref 500), (3, .int (nI (4 * j)))], [], putW ks2 u2 (putW ks1 u1 (WD9 s))) := by
  have hWE : putW ks2 u2 (putW ks1 u1 (WD9 s)) = WD9 s := by
    unfold WD9
    rw [putW_app h1, putW_app h2, e]
  rw [hWE]
  exact K _ I
theorem imB_4 {m n : Int32} (h : imB m n = true) : m = 0 ∨ m = 1 ∨ m = 2 ∨ m = 3 := by
  obtain ⟨h1, h2⟩ := Bool.and_eq_true_iff.mp h
  obtain ⟨h2, h3⟩ := Bool.and_eq_true_iff.mp h2
  exact in4 (of_decide_eq_false (Bool.not_eq_true' _ ▸ h1)) (of_decide_eq_false (Bool.not_eq_true' _ ▸ h2))
theorem in_12 {x : Int32} (h : inB x 0 11 = true) : x = 0 ∨ x = 1 ∨ x = 2 ∨ x = 3 ∨ x = 4 ∨ x = 5 ∨ x = 6 ∨ x = 7 ∨ x = 8 ∨ x = 9 ∨ x = 10 ∨ x = 11 := by
  obtain ⟨j, -, hj, rfl⟩ := inB_ex (l := 0) (u := 11) (by decide) (by decide) h
  exact (by decide +kernel : ∀ j, j < 12 → nI j = 0 ∨ nI j = 1 ∨ nI j = 2 ∨ nI j = 3 ∨ nI j = 4 ∨ nI j = 5 ∨ nI j = 6 ∨ nI j = 7 ∨ nI j = 8 ∨ nI j = 9 ∨ nI j = 10 ∨ nI j = 11) j (by omega)
theorem in_8 {x : Int32} (h : inB x 0 7 = true) : x = 0 ∨ x = 1 ∨ x = 2 ∨ x = 3 ∨ x = 4 ∨ x = 5 ∨ x = 6 ∨ x = 7 := by
  obtain ⟨j, -, hj, rfl⟩ := inB_ex (l := 0) (u := 7) (by decide) (by decide) h
  exact (by decide +kernel : ∀ j, j < 8 → nI j = 0 ∨ nI j = 1 ∨ nI j = 2 ∨ nI j = 3 ∨ nI j = 4 ∨ nI j = 5 ∨ nI j = 6 ∨ nI j = 7) j (by omega)
theorem in_18 {x : Int32} (h : inB x 1 8 = true) : x = 1 ∨ x = 2 ∨ x = 3 ∨ x = 4 ∨ x = 5 ∨ x = 6 ∨ x = 7 ∨ x = 8 := by
  obtain ⟨j, h1, hj, rfl⟩ := inB_ex (l := 1) (u := 8) (by decide) (by decide) h
  exact (by decide +kernel : ∀ j, j < 9 → 1 ≤ j → nI j = 1 ∨ nI j = 2 ∨ nI j = 3 ∨ nI j = 4 ∨ nI j = 5 ∨ nI j = 6 ∨ nI j = 7 ∨ nI j = 8) j (by omega) h1
theorem in_4 {x : Int32} (h : inB x 0 3 = true) : x = 0 ∨ x = 1 ∨ x = 2 ∨ x = 3 := by
  obtain ⟨j, -, hj, rfl⟩ := inB_ex (l := 0) (u := 3) (by decide) (by decide) h
  exact (by decide +kernel : ∀ j, j < 4 → nI j = 0 ∨ nI j = 1 ∨ nI j = 2 ∨ nI j = 3) j (by omega)
theorem in_2 {x : Int32} (h : inB x 0 1 = true) : x = 0 ∨ x = 1 := by
  obtain ⟨j, -, hj, rfl⟩ := inB_ex (l := 0) (u := 1) (by decide) (by decide) h
  exact (by decide +kernel : ∀ j, j < 2 → nI j = 0 ∨ nI j = 1) j (by omega)
theorem inB_lo {x l u : Int32} (h : x < l) : inB x l u = false := by unfold inB; rw [decide_eq_true h]; rfl
theorem inB_hi {x l u : Int32} (h : u < x) : inB x l u = false := by unfold inB; rw [decide_eq_true h, Bool.not_true, Bool.and_false]
theorem inB_ok {x l u : Int32} (h1 : ¬ x < l) (h2 : ¬ u < x) : inB x l u = true := by unfold inB; rw [decide_eq_false h1, decide_eq_false h2]; rfl
theorem inB_sp {x l u : Int32} (h : inB x l u = false) : x < l ∨ (¬ x < l ∧ u < x) := by
  by_cases h1 : x < l
  · exact Or.inl h1
  · by_cases h2 : u < x
    · exact Or.inr ⟨h1, h2⟩
    · rw [inB_ok h1 h2] at h; cases h
theorem inB_b {x l u : Int32} (h : inB x l u = true) : ¬ x < l ∧ ¬ u < x := by
  obtain ⟨h1, h2⟩ := Bool.and_eq_true_iff.mp h
  exact ⟨of_decide_eq_false (Bool.not_eq_true' _ ▸ h1), of_decide_eq_false (Bool.not_eq_true' _ ▸ h2)⟩
theorem inB_toInt {x l u : Int32} (h : inB x l u = false) : x.toInt < l.toInt ∨ u.toInt < x.toInt := by
  rcases inB_sp h with h | h
  · exact Or.inl (Int32.lt_iff_toInt_lt.mp h)
  · exact Or.inr (Int32.lt_iff_toInt_lt.mp h.2)
theorem min_sw (x y : Int32) : (if x < y then x else y) = if y < x then y else x := by
  by_cases h : x < y
  · rw [if_pos h, if_neg (fun q => Int32.lt_irrefl (Int32.lt_trans h q))]
  · by_cases h2 : y < x
    · rw [if_neg h, if_pos h2]
    · rw [if_neg h, if_neg h2]
      exact Int32.le_antisymm (Int32.not_lt.mp h) (Int32.not_lt.mp h2)
theorem sI {a b : Int32} (h : a = b) : (some (Value.int a)) = some (Value.int b) := by rw [h]
