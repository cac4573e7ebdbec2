theorem gi_set {l : List Int32} {k : Nat} (hk : k < l.length) (v : Int32) : (fun j => gi (l.set k v) j) = upd (fun j => gi l j) k v := by
  funext j
  simp only [gi_eq, upd, List.getD_eq_getElem?_getD, List.getElem?_set]
  by_cases h : j = k
  · subst h
    simp [hk]
  · simp [h, Ne.symm h]
theorem ix_lt {i : Int32} {k n : Nat} (h : ix i k n) : k < n := by
  obtain ⟨h1, h2⟩ := h
  rw [← h2]
  exact Nat.not_le.mp fun q => h1 (Or.inr q)
theorem jset {cA : Nat → ClassId} {ad : Nat → Nat} {ws : Pw} {j k : Nat} {e : Pe} {v : va_E} (h : jE cA ad e = v) : jW cA ad (ws.set j (k, e)) = (jW cA ad ws).set j (ad k, v) := by rw [jW_set, h]
def o_putI (ci k : Nat) : Op := fun o S => match S.2.2.1 with
  | .int x :: .ref a :: st => match wget S.2.2.2 a with
    | some (.inl (c1, fs)) => bif (Nat.beq c1 ci && Nat.blt k fs.length) then some (o, (S.1 + 3, S.2.1, st, wset S.2.2.2 a (.inl (c1, fs.set k (.int x)))), []) else none
    | _ => none
  | _ => none
theorem s_putI {x : Cx} {cc : ByteArray} {nL : Nat} {own nm : String} {ret : Option FieldType} {d : Nat} (F : Fx x cc nL own nm ret d) {pc : Nat} {C : String} {T : u_T} {N ci i : Nat} (hin : ∀ w ∈ u_ws C T N, w ∈ allW) (ty0 : Nat → FieldType) (hty : ∀ k, k < N → parseFieldDescriptor (T k).2.2.1 = some (ty0 k)) (hnm9 : ∀ a, a < N → ∀ b, b < N → a ≠ b → (T a).2.1 ≠ (T b).2.1) (hc : vwCl[ci]? = some (C, T, N)) (k9 : Nat) (hk9 : k9 < N) (hw : Cond.fieldLink own i C (T k9).2.1 (T k9).2.2.1 ∈ allW) (hT : (T k9).1 = C) (hfin : (T k9).2.2.2 = false) (hds : parseFieldDescriptor (T k9).2.2.1 = some .int) (hd : decode cc pc = .ok (.putfield i, 3)) : Snd x nL (pc, o_putI ci k9) := by
  obtain ⟨p, l, e, R, s, m, args, below, meth, c, D, cA, A, Q⟩ := x
  obtain ⟨hx, hb, hml, hown, hts, hK, hA, hfr, hlo, hrt, hlk, hnm⟩ := F
  intro g o lv st ws o' S' ob h hob k
  unfold o_putI at h
  rcases st with _ | ⟨v, _ | ⟨u, st⟩⟩
  · cases h
  · cases v <;> cases h
  · cases v <;> cases u <;> first | (cases h; done) | skip
    rename_i z a
    dsimp only at h
    cases hq : wget ws a with
    | none => simp only [hq] at h; cases h
    | some e1 =>
      rcases e1 with ⟨c1, fs⟩ | e1
      · simp only [hq] at h
        cases hc1 : (Nat.beq c1 ci && Nat.blt k9 fs.length) with
        | false => simp only [hc1, cond_false] at h; cases h
        | true =>
          simp only [hc1, cond_true] at h
          obtain ⟨q1, q2⟩ := Bool.and_eq_true_iff.mp hc1
          have e2 := Nat.eq_of_beq_eq_true q1
          have e3 : k9 < fs.length := Nat.le_of_ble_eq_true q2
          subst e2
          cases h
          obtain ⟨j, hj, hs⟩ := wget_at hq
          intro H locs ls hl hP hD hS hG
          have hE : jE cA g.1 (.inl (c1, fs.set k9 (.int z))) = .inr (c1, (fs.map (jV g.1)).set k9 (.int z)) := by
            show Sum.inr _ = _
            rw [List.map_set]
            rfl
          refine va_put hx hb (own := own) (ref := C) hts hin ty0 hty hnm9 hown hK hP hD hS j (jW_at hj) hc k9 hk9 (hts _ hw) (fun _ h9 => by rw [hT] at h9; exact h9) hfin (ty := .int) hds rfl rfl (by rw [List.length_map]; exact e3) hd (fun H1 locs1 hP1 hD1 hS1 => k H1 locs1 ls hl ?_ ?_ hS1 hG)
          · rw [hs, jset hE]; exact hP1
          · rw [hs, jset hE]; exact hD1
      · simp only [hq] at h; cases h
def o_putL (ci k : Nat) : Op := fun o S => match S.2.2.1 with
  | .long x :: .ref a :: st => match wget S.2.2.2 a with
    | some (.inl (c1, fs)) => bif (Nat.beq c1 ci && Nat.blt k fs.length) then some (o, (S.1 + 3, S.2.1, st, wset S.2.2.2 a (.inl (c1, fs.set k (.long x)))), []) else none
    | _ => none
  | _ => none
theorem s_putL {x : Cx} {cc : ByteArray} {nL : Nat} {own nm : String} {ret : Option FieldType} {d : Nat} (F : Fx x cc nL own nm ret d) {pc : Nat} {C : String} {T : u_T} {N ci i : Nat} (hin : ∀ w ∈ u_ws C T N, w ∈ allW) (ty0 : Nat → FieldType) (hty : ∀ k, k < N → parseFieldDescriptor (T k).2.2.1 = some (ty0 k)) (hnm9 : ∀ a, a < N → ∀ b, b < N → a ≠ b → (T a).2.1 ≠ (T b).2.1) (hc : vwCl[ci]? = some (C, T, N)) (k9 : Nat) (hk9 : k9 < N) (hw : Cond.fieldLink own i C (T k9).2.1 (T k9).2.2.1 ∈ allW) (hT : (T k9).1 = C) (hfin : (T k9).2.2.2 = false) (hds : parseFieldDescriptor (T k9).2.2.1 = some .long) (hd : decode cc pc = .ok (.putfield i, 3)) : Snd x nL (pc, o_putL ci k9) := by
  obtain ⟨p, l, e, R, s, m, args, below, meth, c, D, cA, A, Q⟩ := x
  obtain ⟨hx, hb, hml, hown, hts, hK, hA, hfr, hlo, hrt, hlk, hnm⟩ := F
  intro g o lv st ws o' S' ob h hob k
  unfold o_putL at h
  rcases st with _ | ⟨v, _ | ⟨u, st⟩⟩
  · cases h
  · cases v <;> cases h
  · cases v <;> cases u <;> first | (cases h; done) | skip
    rename_i z a
    dsimp only at h
    cases hq : wget ws a with
    | none => simp only [hq] at h; cases h
    | some e1 =>
      rcases e1 with ⟨c1, fs⟩ | e1
      · simp only [hq] at h
        cases hc1 : (Nat.beq c1 ci && Nat.blt k9 fs.length) with
        | false => simp only [hc1, cond_false] at h; cases h
        | true =>
          simp only [hc1, cond_true] at h
          obtain ⟨q1, q2⟩ := Bool.and_eq_true_iff.mp hc1
          have e2 := Nat.eq_of_beq_eq_true q1
          have e3 : k9 < fs.length := Nat.le_of_ble_eq_true q2
          subst e2
          cases h
          obtain ⟨j, hj, hs⟩ := wget_at hq
          intro H locs ls hl hP hD hS hG
          have hE : jE cA g.1 (.inl (c1, fs.set k9 (.long z))) = .inr (c1, (fs.map (jV g.1)).set k9 (.long z)) := by
            show Sum.inr _ = _
            rw [List.map_set]
            rfl
          refine va_put hx hb (own := own) (ref := C) hts hin ty0 hty hnm9 hown hK hP hD hS j (jW_at hj) hc k9 hk9 (hts _ hw) (fun _ h9 => by rw [hT] at h9; exact h9) hfin (ty := .long) hds rfl rfl (by rw [List.length_map]; exact e3) hd (fun H1 locs1 hP1 hD1 hS1 => k H1 locs1 ls hl ?_ ?_ hS1 hG)
          · rw [hs, jset hE]; exact hP1
          · rw [hs, jset hE]; exact hD1
      · simp only [hq] at h; cases h
def o_putZ (ci k : Nat) : Op := fun o S => match S.2.2.1 with
  | .int x :: .ref a :: st => match wget S.2.2.2 a with
    | some (.inl (c1, fs)) => bif (Nat.beq c1 ci && Nat.blt k fs.length) then some (o, (S.1 + 3, S.2.1, st, wset S.2.2.2 a (.inl (c1, fs.set k (.int x)))), [x = 0 ∨ x = 1]) else none
    | _ => none
  | _ => none
theorem s_putZ {x : Cx} {cc : ByteArray} {nL : Nat} {own nm : String} {ret : Option FieldType} {d : Nat} (F : Fx x cc nL own nm ret d) {pc : Nat} {C : String} {T : u_T} {N ci i : Nat} (hin : ∀ w ∈ u_ws C T N, w ∈ allW) (ty0 : Nat → FieldType) (hty : ∀ k, k < N → parseFieldDescriptor (T k).2.2.1 = some (ty0 k)) (hnm9 : ∀ a, a < N → ∀ b, b < N → a ≠ b → (T a).2.1 ≠ (T b).2.1) (hc : vwCl[ci]? = some (C, T, N)) (k9 : Nat) (hk9 : k9 < N) (hw : Cond.fieldLink own i C (T k9).2.1 (T k9).2.2.1 ∈ allW) (hT : (T k9).1 = C) (hfin : (T k9).2.2.2 = false) (hds : parseFieldDescriptor (T k9).2.2.1 = some .boolean) (hd : decode cc pc = .ok (.putfield i, 3)) : Snd x nL (pc, o_putZ ci k9) := by
  obtain ⟨p, l, e, R, s, m, args, below, meth, c, D, cA, A, Q⟩ := x
  obtain ⟨hx, hb, hml, hown, hts, hK, hA, hfr, hlo, hrt, hlk, hnm⟩ := F
  intro g o lv st ws o' S' ob h hob k
  unfold o_putZ at h
  rcases st with _ | ⟨v, _ | ⟨u, st⟩⟩
  · cases h
  · cases v <;> cases h
  · cases v <;> cases u <;> first | (cases h; done) | skip
    rename_i z a
    dsimp only at h
    cases hq : wget ws a with
    | none => simp only [hq] at h; cases h
    | some e1 =>
      rcases e1 with ⟨c1, fs⟩ | e1
      · simp only [hq] at h
        cases hc1 : (Nat.beq c1 ci && Nat.blt k9 fs.length) with
        | false => simp only [hc1, cond_false] at h; cases h
        | true =>
          simp only [hc1, cond_true] at h
          obtain ⟨q1, q2⟩ := Bool.and_eq_true_iff.mp hc1
          have e2 := Nat.eq_of_beq_eq_true q1
          have e3 : k9 < fs.length := Nat.le_of_ble_eq_true q2
          subst e2
          cases h
          obtain ⟨j, hj, hs⟩ := wget_at hq
          intro H locs ls hl hP hD hS hG
          have hE : jE cA g.1 (.inl (c1, fs.set k9 (.int z))) = .inr (c1, (fs.map (jV g.1)).set k9 (.int z)) := by
            show Sum.inr _ = _
            rw [List.map_set]
            rfl
          refine va_put hx hb (own := own) (ref := C) hts hin ty0 hty hnm9 hown hK hP hD hS j (jW_at hj) hc k9 hk9 (hts _ hw) (fun _ h9 => by rw [hT] at h9; exact h9) hfin (ty := .boolean) hds (by rcases hob.1 with h | h <;> rw [h] <;> rfl) (by rcases hob.1 with h | h <;> rw [h] <;> rfl) (by rw [List.length_map]; exact e3) hd (fun H1 locs1 hP1 hD1 hS1 => k H1 locs1 ls hl ?_ ?_ hS1 hG)
          · rw [hs, jset hE]; exact hP1
          · rw [hs, jset hE]; exact hD1
      · simp only [hq] at h; cases h
def o_iald : Op := fun o S => match o, S.2.2.1 with
  | h :: o, .int i :: .ref a :: st => match wget S.2.2.2 a with
    | some (.inr (.inl (t1, l))) => bif Nat.beq t1 0 then some (o, (S.1 + 1, S.2.1, .int (gi l h) :: st, S.2.2.2), [ix i h l.length]) else none
    | _ => none
  | _, _ => none
theorem s_iald {x : Cx} {cc : ByteArray} {nL : Nat} {own nm : String} {ret : Option FieldType} {d : Nat} (F : Fx x cc nL own nm ret d) {pc : Nat}  (hd : decode cc pc = .ok (.iaload, 1)) : Snd x nL (pc, o_iald) := by
  obtain ⟨p, l, e, R, s, m, args, below, meth, c, D, cA, A, Q⟩ := x
  obtain ⟨hx, hb, hml, hown, hts, hK, hA, hfr, hlo, hrt, hlk, hnm⟩ := F
  intro g o lv st ws o' S' ob h hob k
  unfold o_iald at h
  rcases o with _ | ⟨a9, o⟩ <;> rcases st with _ | ⟨v, _ | ⟨u, st⟩⟩ <;> first | (cases h; done) | (cases v <;> cases h; done) | skip
  cases v <;> cases u <;> first | (cases h; done) | skip
  rename_i z a
  dsimp only at h
  cases hq : wget ws a with
  | none => simp only [hq] at h; cases h
  | some e1 =>
    rcases e1 with e1 | ⟨t1, l9⟩ | e1
    · simp only [hq] at h; cases h
    · simp only [hq] at h
      cases hc1 : Nat.beq t1 0 with
      | false => simp only [hc1, cond_false] at h; cases h
      | true =>
        simp only [hc1, cond_true] at h
        have e2 := Nat.eq_of_beq_eq_true hc1
        subst e2
        cases h
        obtain ⟨j, hj, -⟩ := wget_at hq
        intro H locs ls hl hP hD hS hG
        obtain ⟨h1, h2⟩ := hob.1
        refine va_iald hx hb hK hP j 0 (jW_at hj) rfl h1 hd ?_
        rw [h2]
        exact k H locs ls hl hP hD hS hG
    · simp only [hq] at h; cases h
def o_bald : Op := fun o S => match o, S.2.2.1 with
  | h :: o, .int i :: .ref a :: st => match wget S.2.2.2 a with
    | some (.inr (.inl (t1, l))) => bif Nat.beq t1 1 then some (o, (S.1 + 1, S.2.1, .int (gi l h) :: st, S.2.2.2), [ix i h l.length]) else none
    | _ => none
  | _, _ => none
theorem s_bald {x : Cx} {cc : ByteArray} {nL : Nat} {own nm : String} {ret : Option FieldType} {d : Nat} (F : Fx x cc nL own nm ret d) {pc : Nat}  (hd : decode cc pc = .ok (.baload, 1)) : Snd x nL (pc, o_bald) := by
  obtain ⟨p, l, e, R, s, m, args, below, meth, c, D, cA, A, Q⟩ := x
  obtain ⟨hx, hb, hml, hown, hts, hK, hA, hfr, hlo, hrt, hlk, hnm⟩ := F
  intro g o lv st ws o' S' ob h hob k
  unfold o_bald at h
  rcases o with _ | ⟨a9, o⟩ <;> rcases st with _ | ⟨v, _ | ⟨u, st⟩⟩ <;> first | (cases h; done) | (cases v <;> cases h; done) | skip
  cases v <;> cases u <;> first | (cases h; done) | skip
  rename_i z a
  dsimp only at h
  cases hq : wget ws a with
  | none => simp only [hq] at h; cases h
  | some e1 =>
    rcases e1 with e1 | ⟨t1, l9⟩ | e1
    · simp only [hq] at h; cases h
    · simp only [hq] at h
      cases hc1 : Nat.beq t1 1 with
      | false => simp only [hc1, cond_false] at h; cases h
      | true =>
        simp only [hc1, cond_true] at h
        have e2 := Nat.eq_of_beq_eq_true hc1
        subst e2
        cases h
        obtain ⟨j, hj, -⟩ := wget_at hq
        intro H locs ls hl hP hD hS hG
        obtain ⟨h1, h2⟩ := hob.1
        refine va_bald hx hb hK hP j 1 (jW_at hj) rfl h1 hd ?_
        rw [h2]
        exact k H locs ls hl hP hD hS hG
    · simp only [hq] at h; cases h
def o_zald : Op := fun o S => match o, S.2.2.1 with
  | h :: o, .int i :: .ref a :: st => match wget S.2.2.2 a with
    | some (.inr (.inl (t1, l))) => bif Nat.beq t1 2 then some (o, (S.1 + 1, S.2.1, .int (gi l h) :: st, S.2.2.2), [ix i h l.length]) else none
    | _ => none
  | _, _ => none
theorem s_zald {x : Cx} {cc : ByteArray} {nL : Nat} {own nm : String} {ret : Option FieldType} {d : Nat} (F : Fx x cc nL own nm ret d) {pc : Nat}  (hd : decode cc pc = .ok (.baload, 1)) : Snd x nL (pc, o_zald) := by
  obtain ⟨p, l, e, R, s, m, args, below, meth, c, D, cA, A, Q⟩ := x
  obtain ⟨hx, hb, hml, hown, hts, hK, hA, hfr, hlo, hrt, hlk, hnm⟩ := F
  intro g o lv st ws o' S' ob h hob k
  unfold o_zald at h
  rcases o with _ | ⟨a9, o⟩ <;> rcases st with _ | ⟨v, _ | ⟨u, st⟩⟩ <;> first | (cases h; done) | (cases v <;> cases h; done) | skip
  cases v <;> cases u <;> first | (cases h; done) | skip
  rename_i z a
  dsimp only at h
  cases hq : wget ws a with
  | none => simp only [hq] at h; cases h
  | some e1 =>
    rcases e1 with e1 | ⟨t1, l9⟩ | e1
    · simp only [hq] at h; cases h
    · simp only [hq] at h
      cases hc1 : Nat.beq t1 2 with
      | false => simp only [hc1, cond_false] at h; cases h
      | true =>
        simp only [hc1, cond_true] at h
        have e2 := Nat.eq_of_beq_eq_true hc1
        subst e2
        cases h
        obtain ⟨j, hj, -⟩ := wget_at hq
        intro H locs ls hl hP hD hS hG
        obtain ⟨h1, h2⟩ := hob.1
        refine va_zald hx hb hK hP j 2 (jW_at hj) rfl h1 hd ?_
        rw [h2]
        exact k H locs ls hl hP hD hS hG
    · simp only [hq] at h; cases h
def o_iast : Op := fun o S => match o, S.2.2.1 with
  | h :: o, .int x :: .int i :: .ref a :: st => match wget S.2.2.2 a with
    | some (.inr (.inl (t1, l))) => bif Nat.beq t1 0 then some (o, (S.1 + 1, S.2.1, st, wset S.2.2.2 a (.inr (.inl (t1, l.set h (x))))), [ix i h l.length]) else none
    | _ => none
  | _, _ => none
theorem s_iast {x : Cx} {cc : ByteArray} {nL : Nat} {own nm : String} {ret : Option FieldType} {d : Nat} (F : Fx x cc nL own nm ret d) {pc : Nat}  (hd : decode cc pc = .ok (.iastore, 1)) : Snd x nL (pc, o_iast) := by
  obtain ⟨p, l, e, R, s, m, args, below, meth, c, D, cA, A, Q⟩ := x
  obtain ⟨hx, hb, hml, hown, hts, hK, hA, hfr, hlo, hrt, hlk, hnm⟩ := F
  intro g o lv st ws o' S' ob h hob k
  unfold o_iast at h
  rcases o with _ | ⟨a9, o⟩ <;> rcases st with _ | ⟨v, _ | ⟨u, _ | ⟨r9, st⟩⟩⟩ <;> first | (cases h; done) | (cases v <;> cases h; done) | (cases v <;> cases u <;> cases h; done) | skip
  cases v <;> cases u <;> cases r9 <;> first | (cases h; done) | skip
  rename_i x z a
  dsimp only at h
  cases hq : wget ws a with
  | none => simp only [hq] at h; cases h
  | some e1 =>
    rcases e1 with e1 | ⟨t1, l9⟩ | e1
    · simp only [hq] at h; cases h
    · simp only [hq] at h
      cases hc1 : Nat.beq t1 0 with
      | false => simp only [hc1, cond_false] at h; cases h
      | true =>
        simp only [hc1, cond_true] at h
        have e2 := Nat.eq_of_beq_eq_true hc1
        subst e2
        cases h
        obtain ⟨j, hj, hs⟩ := wget_at hq
        intro H locs ls hl hP hD hS hG
        obtain ⟨h1, h2⟩ := id hob.1
        have hE : jE cA g.1 (.inr (.inl (0, l9.set a9 (x)))) = .inl (cA 0, l9.length, .inl (upd (fun j => gi l9 j) z.toNatClampNeg (x))) := by
          show Sum.inl _ = _
          rw [h2, ← gi_set (ix_lt hob.1), List.length_set]
        refine va_iast hx hb hK hP hD hS j 0 (jW_at hj) rfl h1 hd (fun H1 locs1 hP1 hD1 hS1 => k H1 locs1 ls hl ?_ ?_ hS1 hG)
        · rw [hs, jset hE]; exact hP1
        · rw [hs, jset hE]; exact hD1
    · simp only [hq] at h; cases h
def o_bast : Op := fun o S => match o, S.2.2.1 with
  | h :: o, .int x :: .int i :: .ref a :: st => match wget S.2.2.2 a with
    | some (.inr (.inl (t1, l))) => bif Nat.beq t1 1 then some (o, (S.1 + 1, S.2.1, st, wset S.2.2.2 a (.inr (.inl (t1, l.set h (vp_nar .byte x))))), [ix i h l.length]) else none
    | _ => none
  | _, _ => none
theorem s_bast {x : Cx} {cc : ByteArray} {nL : Nat} {own nm : String} {ret : Option FieldType} {d : Nat} (F : Fx x cc nL own nm ret d) {pc : Nat}  (hd : decode cc pc = .ok (.bastore, 1)) : Snd x nL (pc, o_bast) := by
  obtain ⟨p, l, e, R, s, m, args, below, meth, c, D, cA, A, Q⟩ := x
  obtain ⟨hx, hb, hml, hown, hts, hK, hA, hfr, hlo, hrt, hlk, hnm⟩ := F
  intro g o lv st ws o' S' ob h hob k
  unfold o_bast at h
  rcases o with _ | ⟨a9, o⟩ <;> rcases st with _ | ⟨v, _ | ⟨u, _ | ⟨r9, st⟩⟩⟩ <;> first | (cases h; done) | (cases v <;> cases h; done) | (cases v <;> cases u <;> cases h; done) | skip
  cases v <;> cases u <;> cases r9 <;> first | (cases h; done) | skip
  rename_i x z a
  dsimp only at h
  cases hq : wget ws a with
  | none => simp only [hq] at h; cases h
  | some e1 =>
    rcases e1 with e1 | ⟨t1, l9⟩ | e1
    · simp only [hq] at h; cases h
    · simp only [hq] at h
      cases hc1 : Nat.beq t1 1 with
      | false => simp only [hc1, cond_false] at h; cases h
      | true =>
        simp only [hc1, cond_true] at h
        have e2 := Nat.eq_of_beq_eq_true hc1
        subst e2
        cases h
        obtain ⟨j, hj, hs⟩ := wget_at hq
        intro H locs ls hl hP hD hS hG
        obtain ⟨h1, h2⟩ := id hob.1
        have hE : jE cA g.1 (.inr (.inl (1, l9.set a9 (vp_nar .byte x)))) = .inl (cA 1, l9.length, .inl (upd (fun j => gi l9 j) z.toNatClampNeg (vp_nar .byte x))) := by
          show Sum.inl _ = _
          rw [h2, ← gi_set (ix_lt hob.1), List.length_set]
        refine va_bast hx hb hK hP hD hS j 1 (jW_at hj) rfl h1 hd (fun H1 locs1 hP1 hD1 hS1 => k H1 locs1 ls hl ?_ ?_ hS1 hG)
        · rw [hs, jset hE]; exact hP1
        · rw [hs, jset hE]; exact hD1
    · simp only [hq] at h; cases h
def o_zast : Op := fun o S => match o, S.2.2.1 with
  | h :: o, .int x :: .int i :: .ref a :: st => match wget S.2.2.2 a with
    | some (.inr (.inl (t1, l))) => bif Nat.beq t1 2 then some (o, (S.1 + 1, S.2.1, st, wset S.2.2.2 a (.inr (.inl (t1, l.set h (vp_nar .boolean x))))), [ix i h l.length]) else none
    | _ => none
  | _, _ => none
theorem s_zast {x : Cx} {cc : ByteArray} {nL : Nat} {own nm : String} {ret : Option FieldType} {d : Nat} (F : Fx x cc nL own nm ret d) {pc : Nat}  (hd : decode cc pc = .ok (.bastore, 1)) : Snd x nL (pc, o_zast) := by
  obtain ⟨p, l, e, R, s, m, args, below, meth, c, D, cA, A, Q⟩ := x
  obtain ⟨hx, hb, hml, hown, hts, hK, hA, hfr, hlo, hrt, hlk, hnm⟩ := F
  intro g o lv st ws o' S' ob h hob k
  unfold o_zast at h
  rcases o with _ | ⟨a9, o⟩ <;> rcases st with _ | ⟨v, _ | ⟨u, _ | ⟨r9, st⟩⟩⟩ <;> first | (cases h; done) | (cases v <;> cases h; done) | (cases v <;> cases u <;> cases h; done) | skip
  cases v <;> cases u <;> cases r9 <;> first | (cases h; done) | skip
  rename_i x z a
  dsimp only at h
  cases hq : wget ws a with
  | none => simp only [hq] at h; cases h
  | some e1 =>
    rcases e1 with e1 | ⟨t1, l9⟩ | e1
    · simp only [hq] at h; cases h
    · simp only [hq] at h
      cases hc1 : Nat.beq t1 2 with
      | false => simp only [hc1, cond_false] at h; cases h
      | true =>
        simp only [hc1, cond_true] at h
        have e2 := Nat.eq_of_beq_eq_true hc1
        subst e2
        cases h
        obtain ⟨j, hj, hs⟩ := wget_at hq
        intro H locs ls hl hP hD hS hG
        obtain ⟨h1, h2⟩ := id hob.1
        have hE : jE cA g.1 (.inr (.inl (2, l9.set a9 (vp_nar .boolean x)))) = .inl (cA 2, l9.length, .inl (upd (fun j => gi l9 j) z.toNatClampNeg (vp_nar .boolean x))) := by
          show Sum.inl _ = _
          rw [h2, ← gi_set (ix_lt hob.1), List.length_set]
        refine va_zast hx hb hK hP hD hS j 2 (jW_at hj) rfl h1 hd (fun H1 locs1 hP1 hD1 hS1 => k H1 locs1 ls hl ?_ ?_ hS1 hG)
        · rw [hs, jset hE]; exact hP1
        · rw [hs, jset hE]; exact hD1
    · simp only [hq] at h; cases h
def o_aald : Op := fun o S => match o, S.2.2.1 with
  | h :: o, .int i :: .ref a :: st => match wget S.2.2.2 a with
    | some (.inr (.inr (t1, l))) => bif Nat.beq t1 3 then (match ga l h with
      | some b => some (o, (S.1 + 1, S.2.1, .ref b :: st, S.2.2.2), [ix i h l.length])
      | none => some (o, (S.1 + 1, S.2.1, .null :: st, S.2.2.2), [ix i h l.length])) else none
    | _ => none
  | _, _ => none
theorem s_aald {x : Cx} {cc : ByteArray} {nL : Nat} {own nm : String} {ret : Option FieldType} {d : Nat} (F : Fx x cc nL own nm ret d) {pc : Nat}  (hd : decode cc pc = .ok (.aaload, 1)) : Snd x nL (pc, o_aald) := by
  obtain ⟨p, l, e, R, s, m, args, below, meth, c, D, cA, A, Q⟩ := x
  obtain ⟨hx, hb, hml, hown, hts, hK, hA, hfr, hlo, hrt, hlk, hnm⟩ := F
  intro g o lv st ws o' S' ob h hob k
  unfold o_aald at h
  rcases o with _ | ⟨a9, o⟩ <;> rcases st with _ | ⟨v, _ | ⟨u, st⟩⟩ <;> first | (cases h; done) | (cases v <;> cases h; done) | skip
  cases v <;> cases u <;> first | (cases h; done) | skip
  rename_i z a
  dsimp only at h
  cases hq : wget ws a with
  | none => simp only [hq] at h; cases h
  | some e1 =>
    rcases e1 with e1 | e1 | ⟨t1, l9⟩
    · simp only [hq] at h; cases h
    · simp only [hq] at h; cases h
    · simp only [hq] at h
      cases hc1 : Nat.beq t1 3 with
      | false => simp only [hc1, cond_false] at h; cases h
      | true =>
        simp only [hc1, cond_true] at h
        have e2 := Nat.eq_of_beq_eq_true hc1
        subst e2
        obtain ⟨j, hj, -⟩ := wget_at hq
        cases hv : ga l9 a9 with
        | none =>
          simp only [hv] at h
          cases h
          intro H locs ls hl hP hD hS hG
          obtain ⟨h1, h2⟩ := hob.1
          refine va_aldq hx hb hK hP j 3 (jW_at hj) rfl h1 hd ?_
          rw [h2, hv]
          exact k H locs ls hl hP hD hS hG
        | some b =>
          simp only [hv] at h
          cases h
          intro H locs ls hl hP hD hS hG
          obtain ⟨h1, h2⟩ := hob.1
          refine va_aldq hx hb hK hP j 3 (jW_at hj) rfl h1 hd ?_
          rw [h2, hv]
          exact k H locs ls hl hP hD hS hG
def csum (st : List Value) : Nat := (st.map fun v => v.category).sum
theorem csum_map (ad : Nat → Nat) (st : List Value) : ((st.map (jV ad)).map fun v => v.category).sum = csum st := by
  unfold csum
  rw [List.map_map]
  congr 1
  exact List.map_congr_left fun v _ => jV_cat ad v
def o_min : Op := fun o S => match S.2.2.1 with
  | .int y :: .int x :: st => bif Nat.ble (csum st) 8 then some (o, (S.1 + 3, S.2.1, .int (if y < x then y else x) :: st, S.2.2.2), []) else none
  | _ => none
theorem s_min {x : Cx} {cc : ByteArray} {nL : Nat} {own nm : String} {ret : Option FieldType} {d : Nat} (F : Fx x cc nL own nm ret d) {pc : Nat} {i : Nat} (hd1 : 1 ≤ d) (hw1 : Cond.methodLink own i Lib.Math.min.name ∈ allW) (hw2 : Cond.static Lib.Math.min.name ∈ allW) (hw3 : Cond.initialized "java/lang/Math" ∈ allW) (hw4 : Cond.code Lib.Math.min.name Lib.Math.min.code 2 (some .int) ∈ allW) (hd : decode cc pc = .ok (.invokestatic i, 3)) : Snd x nL (pc, o_min) := by
  obtain ⟨p, l, e, R, s, m, args, below, meth, c, D, cA, A, Q⟩ := x
  obtain ⟨hx, hb, hml, hown, hts, hK, hA, hfr, hlo, hrt, hlk, hnm⟩ := F
  intro g o lv st ws o' S' ob h hob k
  unfold o_min at h
  rcases st with _ | ⟨v, _ | ⟨u, st⟩⟩
  · cases h
  · cases v <;> cases h
  · cases v <;> cases u <;> first | (cases h; done) | skip
    dsimp only at h
    cases hc : Nat.ble (csum st) 8 with
    | false => simp only [hc, cond_false] at h; cases h
    | true =>
      simp only [hc, cond_true] at h
      cases h
      have h8 := Nat.le_of_ble_eq_true hc
      intro H locs ls hl hP hD hS hG
      exact va_mmin hx hb (hml.trans hl.1.symm) hown (hts _ hw1) (hts _ hw2) (hts _ hw3) (hts _ hw4) (Nat.le_trans hd1 hfr) (by rw [csum_map]; omega) hG.1 hG.2 hd (k H locs ls hl hP hD hS hG)
