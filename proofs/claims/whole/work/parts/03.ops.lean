def lget : List (Nat × Value) → Nat → Option Value
  | [], _ => none
  | q :: l, i => bif Nat.beq q.1 i then some q.2 else lget l i
theorem lget_at {lv : List (Nat × Value)} {i : Nat} {v : Value} (h : lget lv i = some v) : ∃ k : Nat, lv[k]? = some (i, v) := by
  induction lv with
  | nil => cases h
  | cons q l ih =>
    unfold lget at h
    cases hb : Nat.beq q.1 i with
    | true =>
      rw [hb] at h
      have e1 : q.1 = i := Nat.eq_of_beq_eq_true hb
      cases h
      exact ⟨0, by rw [← e1]; rfl⟩
    | false =>
      rw [hb] at h
      obtain ⟨k, hk⟩ := ih h
      exact ⟨k + 1, by simpa using hk⟩
theorem jL_at {ad : Nat → Nat} {lv : List (Nat × Value)} {i k : Nat} {v : Value} (h : lv[k]? = some (i, v)) : (jL ad lv)[k]? = some (i, jV ad v) := by
  unfold jL
  rw [List.getElem?_map, h]
  rfl
def ld1 (i : Nat) (l : List (Nat × Value)) : List (Nat × Value) := l.filter (fun q => !(Nat.beq q.1 i) && !(Nat.beq (q.1 + 1) i && Nat.beq q.2.category 2))
def ld2 (i : Nat) (l : List (Nat × Value)) : List (Nat × Value) := l.filter (fun q => !(Nat.beq q.1 i) && (!(Nat.beq q.1 (i + 1)) && !(Nat.beq (q.1 + 1) i && Nat.beq q.2.category 2)))
def lins : List (Nat × Value) → Nat → Value → List (Nat × Value)
  | [], i, v => [(i, v)]
  | q :: l, i, v => bif Nat.blt i q.1 then (i, v) :: q :: l else q :: lins l i v
theorem lins_mem {l : List (Nat × Value)} {i : Nat} {v : Value} {q : Nat × Value} (h : q ∈ lins l i v) : q = (i, v) ∨ q ∈ l := by
  induction l with
  | nil => exact Or.inl (List.mem_singleton.mp h)
  | cons a l ih =>
    unfold lins at h
    cases hb : Nat.blt i a.1 with
    | true =>
      rw [hb] at h
      exact List.mem_cons.mp h
    | false =>
      rw [hb] at h
      rcases List.mem_cons.mp h with h | h
      · exact Or.inr (List.mem_cons.mpr (Or.inl h))
      · rcases ih h with h | h
        · exact Or.inl h
        · exact Or.inr (List.mem_cons_of_mem _ h)
theorem jV_cat (ad : Nat → Nat) (v : Value) : (jV ad v).category = v.category := by cases v <;> rfl
theorem nbeq_eq (a b : Nat) : Nat.beq a b = (a == b) := by
  by_cases h : a = b
  · subst h; rw [Nat.beq_refl]; simp
  · cases hb : Nat.beq a b with
    | true => exact absurd (Nat.eq_of_beq_eq_true hb) h
    | false => simp [h]
theorem lset1 {ad : Nat → Nat} {ls : Array Slot} {nL i : Nat} {v : Value} {lv : List (Nat × Value)} (h : lv_has ls nL ((i, jV ad v) :: (jL ad lv).filter (fun q => !(q.1 == i) && !(q.1 + 1 == i && q.2.category == 2)))) : lv_has ls nL (jL ad (lins (ld1 i lv) i v)) := by
  refine ⟨h.1, h.2.1, fun q hq => h.2.2 q ?_⟩
  obtain ⟨z, hz, rfl⟩ := List.mem_map.mp hq
  rcases lins_mem hz with rfl | hz
  · exact List.mem_cons_self
  · obtain ⟨z1, z2⟩ := List.mem_filter.mp hz
    refine List.mem_cons_of_mem _ (List.mem_filter.mpr ⟨List.mem_map.mpr ⟨z, z1, rfl⟩, ?_⟩)
    simp only [nbeq_eq] at z2
    simp only [jV_cat]
    exact z2
theorem lset2 {ad : Nat → Nat} {ls : Array Slot} {nL i : Nat} {v : Value} {lv : List (Nat × Value)} (h : lv_has ls nL ((i, jV ad v) :: (jL ad lv).filter (fun q => !(q.1 == i) && (!(q.1 == i + 1) && !(q.1 + 1 == i && q.2.category == 2))))) : lv_has ls nL (jL ad (lins (ld2 i lv) i v)) := by
  refine ⟨h.1, h.2.1, fun q hq => h.2.2 q ?_⟩
  obtain ⟨z, hz, rfl⟩ := List.mem_map.mp hq
  rcases lins_mem hz with rfl | hz
  · exact List.mem_cons_self
  · obtain ⟨z1, z2⟩ := List.mem_filter.mp hz
    refine List.mem_cons_of_mem _ (List.mem_filter.mpr ⟨List.mem_map.mpr ⟨z, z1, rfl⟩, ?_⟩)
    simp only [nbeq_eq] at z2
    simp only [jV_cat]
    exact z2
def gv : List Value → Nat → Option Value
  | [], _ => none
  | x :: _, 0 => some x
  | _ :: l, k + 1 => gv l k
theorem gv_eq (l : List Value) (k : Nat) : gv l k = l[k]? := by
  induction l generalizing k with
  | nil => rfl
  | cons x l ih =>
    cases k with
    | zero => rfl
    | succ k => simpa [gv] using ih k
def ix (i : Int32) (k n : Nat) : Prop := vp_in i n ∧ i.toNatClampNeg = k
def o_push (v : Value) (len : Nat) : Op := fun o S => match S with
  | (pc, lv, st, ws) => some (o, (pc + len, lv, v :: st, ws), [])
theorem s_iconst {x : Cx} {cc : ByteArray} {nL : Nat} {own nm : String} {ret : Option FieldType} {d : Nat} (F : Fx x cc nL own nm ret d) {pc : Nat} {n : Int} {v : Int32} (hv : Int32.ofInt n = v) (hd : decode cc pc = .ok (.iconst n, 1)) : Snd x nL (pc, o_push (.int v) 1) := by
  obtain ⟨p, l, e, R, s, m, args, below, meth, c, D, cA, A, Q⟩ := x
  obtain ⟨hx, hb, hml, hown, hts, hK, hA, hfr, hlo, hrt, hlk, hnm⟩ := F
  intro g o lv st ws o' S' ob h hob k
  cases h
  intro H locs ls hl hP hD hS hG
  exact lv_iconst hx hb hd hv (k H locs ls hl hP hD hS hG)
theorem s_bipush {x : Cx} {cc : ByteArray} {nL : Nat} {own nm : String} {ret : Option FieldType} {d : Nat} (F : Fx x cc nL own nm ret d) {pc : Nat} {n : Int} {v : Int32} (hv : (Int8.ofInt n).toInt32 = v) (hd : decode cc pc = .ok (.bipush n, 2)) : Snd x nL (pc, o_push (.int v) 2) := by
  obtain ⟨p, l, e, R, s, m, args, below, meth, c, D, cA, A, Q⟩ := x
  obtain ⟨hx, hb, hml, hown, hts, hK, hA, hfr, hlo, hrt, hlk, hnm⟩ := F
  intro g o lv st ws o' S' ob h hob k
  cases h
  intro H locs ls hl hP hD hS hG
  exact lv_bipush hx hb hd hv (k H locs ls hl hP hD hS hG)
theorem s_sipush {x : Cx} {cc : ByteArray} {nL : Nat} {own nm : String} {ret : Option FieldType} {d : Nat} (F : Fx x cc nL own nm ret d) {pc : Nat} {n : Int} {v : Int32} (hv : (Int16.ofInt n).toInt32 = v) (hd : decode cc pc = .ok (.sipush n, 3)) : Snd x nL (pc, o_push (.int v) 3) := by
  obtain ⟨p, l, e, R, s, m, args, below, meth, c, D, cA, A, Q⟩ := x
  obtain ⟨hx, hb, hml, hown, hts, hK, hA, hfr, hlo, hrt, hlk, hnm⟩ := F
  intro g o lv st ws o' S' ob h hob k
  cases h
  intro H locs ls hl hP hD hS hG
  exact lv_sipush hx hb hd hv (k H locs ls hl hP hD hS hG)
theorem s_lconst {x : Cx} {cc : ByteArray} {nL : Nat} {own nm : String} {ret : Option FieldType} {d : Nat} (F : Fx x cc nL own nm ret d) {pc : Nat} {n : Fin 2} {v : Int64} (hv : Int64.ofNat (n : Nat) = v) (hd : decode cc pc = .ok (.lconst n, 1)) : Snd x nL (pc, o_push (.long v) 1) := by
  obtain ⟨p, l, e, R, s, m, args, below, meth, c, D, cA, A, Q⟩ := x
  obtain ⟨hx, hb, hml, hown, hts, hK, hA, hfr, hlo, hrt, hlk, hnm⟩ := F
  intro g o lv st ws o' S' ob h hob k
  cases h
  intro H locs ls hl hP hD hS hG
  exact lv_lconst hx hb hd hv (k H locs ls hl hP hD hS hG)
theorem s_ldc {x : Cx} {cc : ByteArray} {nL : Nat} {own nm : String} {ret : Option FieldType} {d : Nat} (F : Fx x cc nL own nm ret d) {pc : Nat} {i : Nat} {v : Int32} (hw : Cond.constant own i v ∈ allW) (hd : decode cc pc = .ok (.ldc i, 2)) : Snd x nL (pc, o_push (.int v) 2) := by
  obtain ⟨p, l, e, R, s, m, args, below, meth, c, D, cA, A, Q⟩ := x
  obtain ⟨hx, hb, hml, hown, hts, hK, hA, hfr, hlo, hrt, hlk, hnm⟩ := F
  intro g o lv st ws o' S' ob h hob k
  cases h
  intro H locs ls hl hP hD hS hG
  exact lv_ldc hx hb hown (hts _ hw) hd (k H locs ls hl hP hD hS hG)
theorem s_ldcw {x : Cx} {cc : ByteArray} {nL : Nat} {own nm : String} {ret : Option FieldType} {d : Nat} (F : Fx x cc nL own nm ret d) {pc : Nat} {i : Nat} {v : Int32} (hw : Cond.constant own i v ∈ allW) (hd : decode cc pc = .ok (.ldc_w i, 3)) : Snd x nL (pc, o_push (.int v) 3) := by
  obtain ⟨p, l, e, R, s, m, args, below, meth, c, D, cA, A, Q⟩ := x
  obtain ⟨hx, hb, hml, hown, hts, hK, hA, hfr, hlo, hrt, hlk, hnm⟩ := F
  intro g o lv st ws o' S' ob h hob k
  cases h
  intro H locs ls hl hP hD hS hG
  exact lv_ldcw hx hb hown (hts _ hw) hd (k H locs ls hl hP hD hS hG)
theorem s_ldc2 {x : Cx} {cc : ByteArray} {nL : Nat} {own nm : String} {ret : Option FieldType} {d : Nat} (F : Fx x cc nL own nm ret d) {pc : Nat} {i : Nat} {v : Int64} (hw : Cond.constantLong own i v ∈ allW) (hd : decode cc pc = .ok (.ldc2_w i, 3)) : Snd x nL (pc, o_push (.long v) 3) := by
  obtain ⟨p, l, e, R, s, m, args, below, meth, c, D, cA, A, Q⟩ := x
  obtain ⟨hx, hb, hml, hown, hts, hK, hA, hfr, hlo, hrt, hlk, hnm⟩ := F
  intro g o lv st ws o' S' ob h hob k
  cases h
  intro H locs ls hl hP hD hS hG
  exact lv_ldc2 hx hb hown (hts _ hw) hd (k H locs ls hl hP hD hS hG)
theorem s_null {x : Cx} {cc : ByteArray} {nL : Nat} {own nm : String} {ret : Option FieldType} {d : Nat} (F : Fx x cc nL own nm ret d) {pc : Nat}  (hd : decode cc pc = .ok (.aconst_null, 1)) : Snd x nL (pc, o_push .null 1) := by
  obtain ⟨p, l, e, R, s, m, args, below, meth, c, D, cA, A, Q⟩ := x
  obtain ⟨hx, hb, hml, hown, hts, hK, hA, hfr, hlo, hrt, hlk, hnm⟩ := F
  intro g o lv st ws o' S' ob h hob k
  cases h
  intro H locs ls hl hP hD hS hG
  exact lv_null hx hb hd (k H locs ls hl hP hD hS hG)
def o_iload (i len : Nat) : Op := fun o S => match lget S.2.1 i with
  | some (.int x) => some (o, (S.1 + len, S.2.1, .int x :: S.2.2.1, S.2.2.2), [])
  | _ => none
theorem s_iload_n {x : Cx} {cc : ByteArray} {nL : Nat} {own nm : String} {ret : Option FieldType} {d : Nat} (F : Fx x cc nL own nm ret d) {pc : Nat} {a : Fin 4} {i : Nat} (hi : (a : Nat) = i) (hd : decode cc pc = .ok (.iload_n a, 1)) : Snd x nL (pc, o_iload i 1) := by
  obtain ⟨p, l, e, R, s, m, args, below, meth, c, D, cA, A, Q⟩ := x
  obtain ⟨hx, hb, hml, hown, hts, hK, hA, hfr, hlo, hrt, hlk, hnm⟩ := F
  intro g o lv st ws o' S' ob h hob k
  unfold o_iload at h
  dsimp only at h
  split at h
  · rename_i y hy
    cases h
    obtain ⟨j, hj⟩ := lget_at hy
    intro H locs ls hl hP hD hS hG
    exact lv_iload_n hx hb hd hi (lv_at hl j (jL_at hj)) (k H locs ls hl hP hD hS hG)
  · cases h
theorem s_iload {x : Cx} {cc : ByteArray} {nL : Nat} {own nm : String} {ret : Option FieldType} {d : Nat} (F : Fx x cc nL own nm ret d) {pc : Nat} {i : Nat} (hd : decode cc pc = .ok (.iload i, 2)) : Snd x nL (pc, o_iload i 2) := by
  obtain ⟨p, l, e, R, s, m, args, below, meth, c, D, cA, A, Q⟩ := x
  obtain ⟨hx, hb, hml, hown, hts, hK, hA, hfr, hlo, hrt, hlk, hnm⟩ := F
  intro g o lv st ws o' S' ob h hob k
  unfold o_iload at h
  dsimp only at h
  split at h
  · rename_i y hy
    cases h
    obtain ⟨j, hj⟩ := lget_at hy
    intro H locs ls hl hP hD hS hG
    exact lv_iload hx hb hd (lv_at hl j (jL_at hj)) (k H locs ls hl hP hD hS hG)
  · cases h
def o_lload (i len : Nat) : Op := fun o S => match lget S.2.1 i with
  | some (.long x) => some (o, (S.1 + len, S.2.1, .long x :: S.2.2.1, S.2.2.2), [])
  | _ => none
theorem s_lload_n {x : Cx} {cc : ByteArray} {nL : Nat} {own nm : String} {ret : Option FieldType} {d : Nat} (F : Fx x cc nL own nm ret d) {pc : Nat} {a : Fin 4} {i : Nat} (hi : (a : Nat) = i) (hd : decode cc pc = .ok (.lload_n a, 1)) : Snd x nL (pc, o_lload i 1) := by
  obtain ⟨p, l, e, R, s, m, args, below, meth, c, D, cA, A, Q⟩ := x
  obtain ⟨hx, hb, hml, hown, hts, hK, hA, hfr, hlo, hrt, hlk, hnm⟩ := F
  intro g o lv st ws o' S' ob h hob k
  unfold o_lload at h
  dsimp only at h
  split at h
  · rename_i y hy
    cases h
    obtain ⟨j, hj⟩ := lget_at hy
    intro H locs ls hl hP hD hS hG
    exact lv_lload_n hx hb hd hi (lv_at hl j (jL_at hj)) (k H locs ls hl hP hD hS hG)
  · cases h
theorem s_lload {x : Cx} {cc : ByteArray} {nL : Nat} {own nm : String} {ret : Option FieldType} {d : Nat} (F : Fx x cc nL own nm ret d) {pc : Nat} {i : Nat} (hd : decode cc pc = .ok (.lload i, 2)) : Snd x nL (pc, o_lload i 2) := by
  obtain ⟨p, l, e, R, s, m, args, below, meth, c, D, cA, A, Q⟩ := x
  obtain ⟨hx, hb, hml, hown, hts, hK, hA, hfr, hlo, hrt, hlk, hnm⟩ := F
  intro g o lv st ws o' S' ob h hob k
  unfold o_lload at h
  dsimp only at h
  split at h
  · rename_i y hy
    cases h
    obtain ⟨j, hj⟩ := lget_at hy
    intro H locs ls hl hP hD hS hG
    exact lv_lload hx hb hd (lv_at hl j (jL_at hj)) (k H locs ls hl hP hD hS hG)
  · cases h
def o_aload (i len : Nat) : Op := fun o S => match lget S.2.1 i with
  | some (.ref x) => some (o, (S.1 + len, S.2.1, .ref x :: S.2.2.1, S.2.2.2), [])
  | some .null => some (o, (S.1 + len, S.2.1, .null :: S.2.2.1, S.2.2.2), [])
  | _ => none
theorem s_aload_n {x : Cx} {cc : ByteArray} {nL : Nat} {own nm : String} {ret : Option FieldType} {d : Nat} (F : Fx x cc nL own nm ret d) {pc : Nat} {a : Fin 4} {i : Nat} (hi : (a : Nat) = i) (hd : decode cc pc = .ok (.aload_n a, 1)) : Snd x nL (pc, o_aload i 1) := by
  obtain ⟨p, l, e, R, s, m, args, below, meth, c, D, cA, A, Q⟩ := x
  obtain ⟨hx, hb, hml, hown, hts, hK, hA, hfr, hlo, hrt, hlk, hnm⟩ := F
  intro g o lv st ws o' S' ob h hob k
  unfold o_aload at h
  dsimp only at h
  split at h
  · rename_i y hy
    cases h
    obtain ⟨j, hj⟩ := lget_at hy
    intro H locs ls hl hP hD hS hG
    exact lv_aload_n hx hb hd hi (lv_at hl j (jL_at hj)) (k H locs ls hl hP hD hS hG)
  · rename_i hy
    cases h
    obtain ⟨j, hj⟩ := lget_at hy
    intro H locs ls hl hP hD hS hG
    exact lv_aload_nN hx hb hd hi (lv_at hl j (jL_at hj)) (k H locs ls hl hP hD hS hG)
  · cases h
theorem s_aload {x : Cx} {cc : ByteArray} {nL : Nat} {own nm : String} {ret : Option FieldType} {d : Nat} (F : Fx x cc nL own nm ret d) {pc : Nat} {i : Nat} (hd : decode cc pc = .ok (.aload i, 2)) : Snd x nL (pc, o_aload i 2) := by
  obtain ⟨p, l, e, R, s, m, args, below, meth, c, D, cA, A, Q⟩ := x
  obtain ⟨hx, hb, hml, hown, hts, hK, hA, hfr, hlo, hrt, hlk, hnm⟩ := F
  intro g o lv st ws o' S' ob h hob k
  unfold o_aload at h
  dsimp only at h
  split at h
  · rename_i y hy
    cases h
    obtain ⟨j, hj⟩ := lget_at hy
    intro H locs ls hl hP hD hS hG
    exact lv_aload hx hb hd (lv_at hl j (jL_at hj)) (k H locs ls hl hP hD hS hG)
  · rename_i hy
    cases h
    obtain ⟨j, hj⟩ := lget_at hy
    intro H locs ls hl hP hD hS hG
    exact lv_aloadN hx hb hd (lv_at hl j (jL_at hj)) (k H locs ls hl hP hD hS hG)
  · cases h
def o_istore (i len : Nat) : Op := fun o S => match S.2.2.1 with
  | .int x :: st => some (o, (S.1 + len, lins (ld1 i S.2.1) i (.int x), st, S.2.2.2), [])
  | _ => none
theorem s_istore_n {x : Cx} {cc : ByteArray} {nL : Nat} {own nm : String} {ret : Option FieldType} {d : Nat} (F : Fx x cc nL own nm ret d) {pc : Nat} {a : Fin 4} {i : Nat} (hi : (a : Nat) = i) (hn : i < nL) (hd : decode cc pc = .ok (.istore_n a, 1)) : Snd x nL (pc, o_istore i 1) := by
  obtain ⟨p, l, e, R, s, m, args, below, meth, c, D, cA, A, Q⟩ := x
  obtain ⟨hx, hb, hml, hown, hts, hK, hA, hfr, hlo, hrt, hlk, hnm⟩ := F
  intro g o lv st ws o' S' ob h hob k
  unfold o_istore at h
  rcases st with _ | ⟨v, st⟩
  · cases h
  · cases v <;> first | (cases h; done) | skip
    cases h
    intro H locs ls hl hP hD hS hG
    exact lv_istore_n hx hb hd hi hl hn rfl (fun ls hl => k H locs ls (lset1 (v := .int _) hl) hP hD hS hG)
theorem s_istore {x : Cx} {cc : ByteArray} {nL : Nat} {own nm : String} {ret : Option FieldType} {d : Nat} (F : Fx x cc nL own nm ret d) {pc : Nat} {i : Nat} (hn : i < nL) (hd : decode cc pc = .ok (.istore i, 2)) : Snd x nL (pc, o_istore i 2) := by
  obtain ⟨p, l, e, R, s, m, args, below, meth, c, D, cA, A, Q⟩ := x
  obtain ⟨hx, hb, hml, hown, hts, hK, hA, hfr, hlo, hrt, hlk, hnm⟩ := F
  intro g o lv st ws o' S' ob h hob k
  unfold o_istore at h
  rcases st with _ | ⟨v, st⟩
  · cases h
  · cases v <;> first | (cases h; done) | skip
    cases h
    intro H locs ls hl hP hD hS hG
    exact lv_istore hx hb hd hl hn rfl (fun ls hl => k H locs ls (lset1 (v := .int _) hl) hP hD hS hG)
def o_lstore (i len : Nat) : Op := fun o S => match S.2.2.1 with
  | .long x :: st => some (o, (S.1 + len, lins (ld2 i S.2.1) i (.long x), st, S.2.2.2), [])
  | _ => none
theorem s_lstore_n {x : Cx} {cc : ByteArray} {nL : Nat} {own nm : String} {ret : Option FieldType} {d : Nat} (F : Fx x cc nL own nm ret d) {pc : Nat} {a : Fin 4} {i : Nat} (hi : (a : Nat) = i) (hn : i + 1 < nL) (hd : decode cc pc = .ok (.lstore_n a, 1)) : Snd x nL (pc, o_lstore i 1) := by
  obtain ⟨p, l, e, R, s, m, args, below, meth, c, D, cA, A, Q⟩ := x
  obtain ⟨hx, hb, hml, hown, hts, hK, hA, hfr, hlo, hrt, hlk, hnm⟩ := F
  intro g o lv st ws o' S' ob h hob k
  unfold o_lstore at h
  rcases st with _ | ⟨v, st⟩
  · cases h
  · cases v <;> first | (cases h; done) | skip
    cases h
    intro H locs ls hl hP hD hS hG
    exact lv_lstore_n hx hb hd hi hl hn rfl (fun ls hl => k H locs ls (lset2 (v := .long _) hl) hP hD hS hG)
theorem s_lstore {x : Cx} {cc : ByteArray} {nL : Nat} {own nm : String} {ret : Option FieldType} {d : Nat} (F : Fx x cc nL own nm ret d) {pc : Nat} {i : Nat} (hn : i + 1 < nL) (hd : decode cc pc = .ok (.lstore i, 2)) : Snd x nL (pc, o_lstore i 2) := by
  obtain ⟨p, l, e, R, s, m, args, below, meth, c, D, cA, A, Q⟩ := x
  obtain ⟨hx, hb, hml, hown, hts, hK, hA, hfr, hlo, hrt, hlk, hnm⟩ := F
  intro g o lv st ws o' S' ob h hob k
  unfold o_lstore at h
  rcases st with _ | ⟨v, st⟩
  · cases h
  · cases v <;> first | (cases h; done) | skip
    cases h
    intro H locs ls hl hP hD hS hG
    exact lv_lstore hx hb hd hl hn rfl (fun ls hl => k H locs ls (lset2 (v := .long _) hl) hP hD hS hG)
def o_astore (i len : Nat) : Op := fun o S => match S.2.2.1 with
  | .ref x :: st => some (o, (S.1 + len, lins (ld1 i S.2.1) i (.ref x), st, S.2.2.2), [])
  | .null :: st => some (o, (S.1 + len, lins (ld1 i S.2.1) i .null, st, S.2.2.2), [])
  | _ => none
theorem s_astore_n {x : Cx} {cc : ByteArray} {nL : Nat} {own nm : String} {ret : Option FieldType} {d : Nat} (F : Fx x cc nL own nm ret d) {pc : Nat} {a : Fin 4} {i : Nat} (hi : (a : Nat) = i) (hn : i < nL) (hd : decode cc pc = .ok (.astore_n a, 1)) : Snd x nL (pc, o_astore i 1) := by
  obtain ⟨p, l, e, R, s, m, args, below, meth, c, D, cA, A, Q⟩ := x
  obtain ⟨hx, hb, hml, hown, hts, hK, hA, hfr, hlo, hrt, hlk, hnm⟩ := F
  intro g o lv st ws o' S' ob h hob k
  unfold o_astore at h
  rcases st with _ | ⟨v, st⟩
  · cases h
  · cases v <;> first | (cases h; done) | skip
    · cases h
      intro H locs ls hl hP hD hS hG
      exact lv_astore_nN hx hb hd hi hl hn rfl (fun ls hl => k H locs ls (lset1 (v := .null) hl) hP hD hS hG)
    · cases h
      intro H locs ls hl hP hD hS hG
      exact lv_astore_n hx hb hd hi hl hn rfl (fun ls hl => k H locs ls (lset1 (v := .ref _) hl) hP hD hS hG)
theorem s_astore {x : Cx} {cc : ByteArray} {nL : Nat} {own nm : String} {ret : Option FieldType} {d : Nat} (F : Fx x cc nL own nm ret d) {pc : Nat} {i : Nat} (hn : i < nL) (hd : decode cc pc = .ok (.astore i, 2)) : Snd x nL (pc, o_astore i 2) := by
  obtain ⟨p, l, e, R, s, m, args, below, meth, c, D, cA, A, Q⟩ := x
  obtain ⟨hx, hb, hml, hown, hts, hK, hA, hfr, hlo, hrt, hlk, hnm⟩ := F
  intro g o lv st ws o' S' ob h hob k
  unfold o_astore at h
  rcases st with _ | ⟨v, st⟩
  · cases h
  · cases v <;> first | (cases h; done) | skip
    · cases h
      intro H locs ls hl hP hD hS hG
      exact lv_astoreN hx hb hd hl hn rfl (fun ls hl => k H locs ls (lset1 (v := .null) hl) hP hD hS hG)
    · cases h
      intro H locs ls hl hP hD hS hG
      exact lv_astore hx hb hd hl hn rfl (fun ls hl => k H locs ls (lset1 (v := .ref _) hl) hP hD hS hG)
def o_iinc (i : Nat) (n : Int32) : Op := fun o S => match lget S.2.1 i with
  | some (.int x) => some (o, (S.1 + 3, lins (ld1 i S.2.1) i (.int (x + n)), S.2.2.1, S.2.2.2), [])
  | _ => none
theorem s_iinc {x : Cx} {cc : ByteArray} {nL : Nat} {own nm : String} {ret : Option FieldType} {d : Nat} (F : Fx x cc nL own nm ret d) {pc : Nat} {i : Nat} {z : Int} {n : Int32} (hz : Int32.ofInt z = n) (hn : i < nL) (hd : decode cc pc = .ok (.iinc i z, 3)) : Snd x nL (pc, o_iinc i n) := by
  obtain ⟨p, l, e, R, s, m, args, below, meth, c, D, cA, A, Q⟩ := x
  obtain ⟨hx, hb, hml, hown, hts, hK, hA, hfr, hlo, hrt, hlk, hnm⟩ := F
  intro g o lv st ws o' S' ob h hob k
  unfold o_iinc at h
  dsimp only at h
  split at h
  · rename_i y hy
    cases h
    obtain ⟨j, hj⟩ := lget_at hy
    intro H locs ls hl hP hD hS hG
    exact lv_iinc hx hb hd hl (jL_at hj) (by rw [hz]) hn rfl (fun ls hl => k H locs ls (lset1 (v := .int _) hl) hP hD hS hG)
  · cases h
def o_iadd : Op := fun o S => match S.2.2.1 with
  | .int y :: .int x :: st => some (o, (S.1 + 1, S.2.1, .int (x + y) :: st, S.2.2.2), [])
  | _ => none
theorem s_iadd {x : Cx} {cc : ByteArray} {nL : Nat} {own nm : String} {ret : Option FieldType} {d : Nat} (F : Fx x cc nL own nm ret d) {pc : Nat}  (hd : decode cc pc = .ok (.iadd, 1)) : Snd x nL (pc, o_iadd) := by
  obtain ⟨p, l, e, R, s, m, args, below, meth, c, D, cA, A, Q⟩ := x
  obtain ⟨hx, hb, hml, hown, hts, hK, hA, hfr, hlo, hrt, hlk, hnm⟩ := F
  intro g o lv st ws o' S' ob h hob k
  unfold o_iadd at h
  rcases st with _ | ⟨v, _ | ⟨u, st⟩⟩
  · cases h
  · cases v <;> cases h
  · cases v <;> cases u <;> first | (cases h; done) | skip
    cases h
    intro H locs ls hl hP hD hS hG
    exact lv_iadd hx hb hd (k H locs ls hl hP hD hS hG)
def o_isub : Op := fun o S => match S.2.2.1 with
  | .int y :: .int x :: st => some (o, (S.1 + 1, S.2.1, .int (x - y) :: st, S.2.2.2), [])
  | _ => none
theorem s_isub {x : Cx} {cc : ByteArray} {nL : Nat} {own nm : String} {ret : Option FieldType} {d : Nat} (F : Fx x cc nL own nm ret d) {pc : Nat}  (hd : decode cc pc = .ok (.isub, 1)) : Snd x nL (pc, o_isub) := by
  obtain ⟨p, l, e, R, s, m, args, below, meth, c, D, cA, A, Q⟩ := x
  obtain ⟨hx, hb, hml, hown, hts, hK, hA, hfr, hlo, hrt, hlk, hnm⟩ := F
  intro g o lv st ws o' S' ob h hob k
  unfold o_isub at h
  rcases st with _ | ⟨v, _ | ⟨u, st⟩⟩
  · cases h
  · cases v <;> cases h
  · cases v <;> cases u <;> first | (cases h; done) | skip
    cases h
    intro H locs ls hl hP hD hS hG
    exact lv_isub hx hb hd (k H locs ls hl hP hD hS hG)
def o_imul : Op := fun o S => match S.2.2.1 with
  | .int y :: .int x :: st => some (o, (S.1 + 1, S.2.1, .int (x * y) :: st, S.2.2.2), [])
  | _ => none
theorem s_imul {x : Cx} {cc : ByteArray} {nL : Nat} {own nm : String} {ret : Option FieldType} {d : Nat} (F : Fx x cc nL own nm ret d) {pc : Nat}  (hd : decode cc pc = .ok (.imul, 1)) : Snd x nL (pc, o_imul) := by
  obtain ⟨p, l, e, R, s, m, args, below, meth, c, D, cA, A, Q⟩ := x
  obtain ⟨hx, hb, hml, hown, hts, hK, hA, hfr, hlo, hrt, hlk, hnm⟩ := F
  intro g o lv st ws o' S' ob h hob k
  unfold o_imul at h
  rcases st with _ | ⟨v, _ | ⟨u, st⟩⟩
  · cases h
  · cases v <;> cases h
  · cases v <;> cases u <;> first | (cases h; done) | skip
    cases h
    intro H locs ls hl hP hD hS hG
    exact lv_imul hx hb hd (k H locs ls hl hP hD hS hG)
def o_iand : Op := fun o S => match S.2.2.1 with
  | .int y :: .int x :: st => some (o, (S.1 + 1, S.2.1, .int (x &&& y) :: st, S.2.2.2), [])
  | _ => none
theorem s_iand {x : Cx} {cc : ByteArray} {nL : Nat} {own nm : String} {ret : Option FieldType} {d : Nat} (F : Fx x cc nL own nm ret d) {pc : Nat}  (hd : decode cc pc = .ok (.iand, 1)) : Snd x nL (pc, o_iand) := by
  obtain ⟨p, l, e, R, s, m, args, below, meth, c, D, cA, A, Q⟩ := x
  obtain ⟨hx, hb, hml, hown, hts, hK, hA, hfr, hlo, hrt, hlk, hnm⟩ := F
  intro g o lv st ws o' S' ob h hob k
  unfold o_iand at h
  rcases st with _ | ⟨v, _ | ⟨u, st⟩⟩
  · cases h
  · cases v <;> cases h
  · cases v <;> cases u <;> first | (cases h; done) | skip
    cases h
    intro H locs ls hl hP hD hS hG
    exact lv_iand hx hb hd (k H locs ls hl hP hD hS hG)
def o_ior : Op := fun o S => match S.2.2.1 with
  | .int y :: .int x :: st => some (o, (S.1 + 1, S.2.1, .int (x ||| y) :: st, S.2.2.2), [])
  | _ => none
theorem s_ior {x : Cx} {cc : ByteArray} {nL : Nat} {own nm : String} {ret : Option FieldType} {d : Nat} (F : Fx x cc nL own nm ret d) {pc : Nat}  (hd : decode cc pc = .ok (.ior, 1)) : Snd x nL (pc, o_ior) := by
  obtain ⟨p, l, e, R, s, m, args, below, meth, c, D, cA, A, Q⟩ := x
  obtain ⟨hx, hb, hml, hown, hts, hK, hA, hfr, hlo, hrt, hlk, hnm⟩ := F
  intro g o lv st ws o' S' ob h hob k
  unfold o_ior at h
  rcases st with _ | ⟨v, _ | ⟨u, st⟩⟩
  · cases h
  · cases v <;> cases h
  · cases v <;> cases u <;> first | (cases h; done) | skip
    cases h
    intro H locs ls hl hP hD hS hG
    exact lv_ior hx hb hd (k H locs ls hl hP hD hS hG)
def o_ixor : Op := fun o S => match S.2.2.1 with
  | .int y :: .int x :: st => some (o, (S.1 + 1, S.2.1, .int (x ^^^ y) :: st, S.2.2.2), [])
  | _ => none
theorem s_ixor {x : Cx} {cc : ByteArray} {nL : Nat} {own nm : String} {ret : Option FieldType} {d : Nat} (F : Fx x cc nL own nm ret d) {pc : Nat}  (hd : decode cc pc = .ok (.ixor, 1)) : Snd x nL (pc, o_ixor) := by
  obtain ⟨p, l, e, R, s, m, args, below, meth, c, D, cA, A, Q⟩ := x
  obtain ⟨hx, hb, hml, hown, hts, hK, hA, hfr, hlo, hrt, hlk, hnm⟩ := F
  intro g o lv st ws o' S' ob h hob k
  unfold o_ixor at h
  rcases st with _ | ⟨v, _ | ⟨u, st⟩⟩
  · cases h
  · cases v <;> cases h
  · cases v <;> cases u <;> first | (cases h; done) | skip
    cases h
    intro H locs ls hl hP hD hS hG
    exact lv_ixor hx hb hd (k H locs ls hl hP hD hS hG)
def o_ishl : Op := fun o S => match S.2.2.1 with
  | .int y :: .int x :: st => some (o, (S.1 + 1, S.2.1, .int (x <<< (y &&& 31)) :: st, S.2.2.2), [])
  | _ => none
theorem s_ishl {x : Cx} {cc : ByteArray} {nL : Nat} {own nm : String} {ret : Option FieldType} {d : Nat} (F : Fx x cc nL own nm ret d) {pc : Nat}  (hd : decode cc pc = .ok (.ishl, 1)) : Snd x nL (pc, o_ishl) := by
  obtain ⟨p, l, e, R, s, m, args, below, meth, c, D, cA, A, Q⟩ := x
  obtain ⟨hx, hb, hml, hown, hts, hK, hA, hfr, hlo, hrt, hlk, hnm⟩ := F
  intro g o lv st ws o' S' ob h hob k
  unfold o_ishl at h
  rcases st with _ | ⟨v, _ | ⟨u, st⟩⟩
  · cases h
  · cases v <;> cases h
  · cases v <;> cases u <;> first | (cases h; done) | skip
    cases h
    intro H locs ls hl hP hD hS hG
    exact lv_ishl hx hb hd (k H locs ls hl hP hD hS hG)
def o_ishr : Op := fun o S => match S.2.2.1 with
  | .int y :: .int x :: st => some (o, (S.1 + 1, S.2.1, .int (x >>> (y &&& 31)) :: st, S.2.2.2), [])
  | _ => none
theorem s_ishr {x : Cx} {cc : ByteArray} {nL : Nat} {own nm : String} {ret : Option FieldType} {d : Nat} (F : Fx x cc nL own nm ret d) {pc : Nat}  (hd : decode cc pc = .ok (.ishr, 1)) : Snd x nL (pc, o_ishr) := by
  obtain ⟨p, l, e, R, s, m, args, below, meth, c, D, cA, A, Q⟩ := x
  obtain ⟨hx, hb, hml, hown, hts, hK, hA, hfr, hlo, hrt, hlk, hnm⟩ := F
  intro g o lv st ws o' S' ob h hob k
  unfold o_ishr at h
  rcases st with _ | ⟨v, _ | ⟨u, st⟩⟩
  · cases h
  · cases v <;> cases h
  · cases v <;> cases u <;> first | (cases h; done) | skip
    cases h
    intro H locs ls hl hP hD hS hG
    exact lv_ishr hx hb hd (k H locs ls hl hP hD hS hG)
def o_idiv : Op := fun o S => match S.2.2.1 with
  | .int y :: .int x :: st => some (o, (S.1 + 1, S.2.1, .int (x / y) :: st, S.2.2.2), [¬ y = 0])
  | _ => none
theorem s_idiv {x : Cx} {cc : ByteArray} {nL : Nat} {own nm : String} {ret : Option FieldType} {d : Nat} (F : Fx x cc nL own nm ret d) {pc : Nat}  (hd : decode cc pc = .ok (.idiv, 1)) : Snd x nL (pc, o_idiv) := by
  obtain ⟨p, l, e, R, s, m, args, below, meth, c, D, cA, A, Q⟩ := x
  obtain ⟨hx, hb, hml, hown, hts, hK, hA, hfr, hlo, hrt, hlk, hnm⟩ := F
  intro g o lv st ws o' S' ob h hob k
  unfold o_idiv at h
  rcases st with _ | ⟨v, _ | ⟨u, st⟩⟩
  · cases h
  · cases v <;> cases h
  · cases v <;> cases u <;> first | (cases h; done) | skip
    cases h
    intro H locs ls hl hP hD hS hG
    exact lv_idiv hx hb hd hob.1 (k H locs ls hl hP hD hS hG)
def o_irem : Op := fun o S => match S.2.2.1 with
  | .int y :: .int x :: st => some (o, (S.1 + 1, S.2.1, .int (x - x / y * y) :: st, S.2.2.2), [¬ y = 0])
  | _ => none
theorem s_irem {x : Cx} {cc : ByteArray} {nL : Nat} {own nm : String} {ret : Option FieldType} {d : Nat} (F : Fx x cc nL own nm ret d) {pc : Nat}  (hd : decode cc pc = .ok (.irem, 1)) : Snd x nL (pc, o_irem) := by
  obtain ⟨p, l, e, R, s, m, args, below, meth, c, D, cA, A, Q⟩ := x
  obtain ⟨hx, hb, hml, hown, hts, hK, hA, hfr, hlo, hrt, hlk, hnm⟩ := F
  intro g o lv st ws o' S' ob h hob k
  unfold o_irem at h
  rcases st with _ | ⟨v, _ | ⟨u, st⟩⟩
  · cases h
  · cases v <;> cases h
  · cases v <;> cases u <;> first | (cases h; done) | skip
    cases h
    intro H locs ls hl hP hD hS hG
    exact lv_irem hx hb hd hob.1 (k H locs ls hl hP hD hS hG)
def o_ladd : Op := fun o S => match S.2.2.1 with
  | .long y :: .long x :: st => some (o, (S.1 + 1, S.2.1, .long (x + y) :: st, S.2.2.2), [])
  | _ => none
theorem s_ladd {x : Cx} {cc : ByteArray} {nL : Nat} {own nm : String} {ret : Option FieldType} {d : Nat} (F : Fx x cc nL own nm ret d) {pc : Nat}  (hd : decode cc pc = .ok (.ladd, 1)) : Snd x nL (pc, o_ladd) := by
  obtain ⟨p, l, e, R, s, m, args, below, meth, c, D, cA, A, Q⟩ := x
  obtain ⟨hx, hb, hml, hown, hts, hK, hA, hfr, hlo, hrt, hlk, hnm⟩ := F
  intro g o lv st ws o' S' ob h hob k
  unfold o_ladd at h
  rcases st with _ | ⟨v, _ | ⟨u, st⟩⟩
  · cases h
  · cases v <;> cases h
  · cases v <;> cases u <;> first | (cases h; done) | skip
    cases h
    intro H locs ls hl hP hD hS hG
    exact lv_ladd hx hb hd (k H locs ls hl hP hD hS hG)
def o_lsub : Op := fun o S => match S.2.2.1 with
  | .long y :: .long x :: st => some (o, (S.1 + 1, S.2.1, .long (x - y) :: st, S.2.2.2), [])
  | _ => none
theorem s_lsub {x : Cx} {cc : ByteArray} {nL : Nat} {own nm : String} {ret : Option FieldType} {d : Nat} (F : Fx x cc nL own nm ret d) {pc : Nat}  (hd : decode cc pc = .ok (.lsub, 1)) : Snd x nL (pc, o_lsub) := by
  obtain ⟨p, l, e, R, s, m, args, below, meth, c, D, cA, A, Q⟩ := x
  obtain ⟨hx, hb, hml, hown, hts, hK, hA, hfr, hlo, hrt, hlk, hnm⟩ := F
  intro g o lv st ws o' S' ob h hob k
  unfold o_lsub at h
  rcases st with _ | ⟨v, _ | ⟨u, st⟩⟩
  · cases h
  · cases v <;> cases h
  · cases v <;> cases u <;> first | (cases h; done) | skip
    cases h
    intro H locs ls hl hP hD hS hG
    exact lv_lsub hx hb hd (k H locs ls hl hP hD hS hG)
def o_lmul : Op := fun o S => match S.2.2.1 with
  | .long y :: .long x :: st => some (o, (S.1 + 1, S.2.1, .long (x * y) :: st, S.2.2.2), [])
  | _ => none
theorem s_lmul {x : Cx} {cc : ByteArray} {nL : Nat} {own nm : String} {ret : Option FieldType} {d : Nat} (F : Fx x cc nL own nm ret d) {pc : Nat}  (hd : decode cc pc = .ok (.lmul, 1)) : Snd x nL (pc, o_lmul) := by
  obtain ⟨p, l, e, R, s, m, args, below, meth, c, D, cA, A, Q⟩ := x
  obtain ⟨hx, hb, hml, hown, hts, hK, hA, hfr, hlo, hrt, hlk, hnm⟩ := F
  intro g o lv st ws o' S' ob h hob k
  unfold o_lmul at h
  rcases st with _ | ⟨v, _ | ⟨u, st⟩⟩
  · cases h
  · cases v <;> cases h
  · cases v <;> cases u <;> first | (cases h; done) | skip
    cases h
    intro H locs ls hl hP hD hS hG
    exact lv_lmul hx hb hd (k H locs ls hl hP hD hS hG)
def o_land : Op := fun o S => match S.2.2.1 with
  | .long y :: .long x :: st => some (o, (S.1 + 1, S.2.1, .long (x &&& y) :: st, S.2.2.2), [])
  | _ => none
theorem s_land {x : Cx} {cc : ByteArray} {nL : Nat} {own nm : String} {ret : Option FieldType} {d : Nat} (F : Fx x cc nL own nm ret d) {pc : Nat}  (hd : decode cc pc = .ok (.land, 1)) : Snd x nL (pc, o_land) := by
  obtain ⟨p, l, e, R, s, m, args, below, meth, c, D, cA, A, Q⟩ := x
  obtain ⟨hx, hb, hml, hown, hts, hK, hA, hfr, hlo, hrt, hlk, hnm⟩ := F
  intro g o lv st ws o' S' ob h hob k
  unfold o_land at h
  rcases st with _ | ⟨v, _ | ⟨u, st⟩⟩
  · cases h
  · cases v <;> cases h
  · cases v <;> cases u <;> first | (cases h; done) | skip
    cases h
    intro H locs ls hl hP hD hS hG
    exact lv_land hx hb hd (k H locs ls hl hP hD hS hG)
def o_lor : Op := fun o S => match S.2.2.1 with
  | .long y :: .long x :: st => some (o, (S.1 + 1, S.2.1, .long (x ||| y) :: st, S.2.2.2), [])
  | _ => none
theorem s_lor {x : Cx} {cc : ByteArray} {nL : Nat} {own nm : String} {ret : Option FieldType} {d : Nat} (F : Fx x cc nL own nm ret d) {pc : Nat}  (hd : decode cc pc = .ok (.lor, 1)) : Snd x nL (pc, o_lor) := by
  obtain ⟨p, l, e, R, s, m, args, below, meth, c, D, cA, A, Q⟩ := x
  obtain ⟨hx, hb, hml, hown, hts, hK, hA, hfr, hlo, hrt, hlk, hnm⟩ := F
  intro g o lv st ws o' S' ob h hob k
  unfold o_lor at h
  rcases st with _ | ⟨v, _ | ⟨u, st⟩⟩
  · cases h
  · cases v <;> cases h
  · cases v <;> cases u <;> first | (cases h; done) | skip
    cases h
    intro H locs ls hl hP hD hS hG
    exact lv_lor hx hb hd (k H locs ls hl hP hD hS hG)
def o_ldiv : Op := fun o S => match S.2.2.1 with
  | .long y :: .long x :: st => some (o, (S.1 + 1, S.2.1, .long (x / y) :: st, S.2.2.2), [¬ y = 0])
  | _ => none
theorem s_ldiv {x : Cx} {cc : ByteArray} {nL : Nat} {own nm : String} {ret : Option FieldType} {d : Nat} (F : Fx x cc nL own nm ret d) {pc : Nat}  (hd : decode cc pc = .ok (.ldiv, 1)) : Snd x nL (pc, o_ldiv) := by
  obtain ⟨p, l, e, R, s, m, args, below, meth, c, D, cA, A, Q⟩ := x
  obtain ⟨hx, hb, hml, hown, hts, hK, hA, hfr, hlo, hrt, hlk, hnm⟩ := F
  intro g o lv st ws o' S' ob h hob k
  unfold o_ldiv at h
  rcases st with _ | ⟨v, _ | ⟨u, st⟩⟩
  · cases h
  · cases v <;> cases h
  · cases v <;> cases u <;> first | (cases h; done) | skip
    cases h
    intro H locs ls hl hP hD hS hG
    exact lv_ldiv hx hb hd hob.1 (k H locs ls hl hP hD hS hG)
def o_lshl : Op := fun o S => match S.2.2.1 with
  | .int y :: .long x :: st => some (o, (S.1 + 1, S.2.1, .long (x <<< (y.toInt64 &&& 63)) :: st, S.2.2.2), [])
  | _ => none
theorem s_lshl {x : Cx} {cc : ByteArray} {nL : Nat} {own nm : String} {ret : Option FieldType} {d : Nat} (F : Fx x cc nL own nm ret d) {pc : Nat}  (hd : decode cc pc = .ok (.lshl, 1)) : Snd x nL (pc, o_lshl) := by
  obtain ⟨p, l, e, R, s, m, args, below, meth, c, D, cA, A, Q⟩ := x
  obtain ⟨hx, hb, hml, hown, hts, hK, hA, hfr, hlo, hrt, hlk, hnm⟩ := F
  intro g o lv st ws o' S' ob h hob k
  unfold o_lshl at h
  rcases st with _ | ⟨v, _ | ⟨u, st⟩⟩
  · cases h
  · cases v <;> cases h
  · cases v <;> cases u <;> first | (cases h; done) | skip
    cases h
    intro H locs ls hl hP hD hS hG
    exact lv_lshl hx hb hd rfl (k H locs ls hl hP hD hS hG)
def o_lshr : Op := fun o S => match S.2.2.1 with
  | .int y :: .long x :: st => some (o, (S.1 + 1, S.2.1, .long (x >>> (y.toInt64 &&& 63)) :: st, S.2.2.2), [])
  | _ => none
theorem s_lshr {x : Cx} {cc : ByteArray} {nL : Nat} {own nm : String} {ret : Option FieldType} {d : Nat} (F : Fx x cc nL own nm ret d) {pc : Nat}  (hd : decode cc pc = .ok (.lshr, 1)) : Snd x nL (pc, o_lshr) := by
  obtain ⟨p, l, e, R, s, m, args, below, meth, c, D, cA, A, Q⟩ := x
  obtain ⟨hx, hb, hml, hown, hts, hK, hA, hfr, hlo, hrt, hlk, hnm⟩ := F
  intro g o lv st ws o' S' ob h hob k
  unfold o_lshr at h
  rcases st with _ | ⟨v, _ | ⟨u, st⟩⟩
  · cases h
  · cases v <;> cases h
  · cases v <;> cases u <;> first | (cases h; done) | skip
    cases h
    intro H locs ls hl hP hD hS hG
    exact lv_lshr hx hb hd rfl (k H locs ls hl hP hD hS hG)
def o_lushr : Op := fun o S => match S.2.2.1 with
  | .int y :: .long x :: st => some (o, (S.1 + 1, S.2.1, .long ((x.toUInt64 >>> (y.toInt64.toUInt64 &&& Int64.toUInt64 63)).toInt64) :: st, S.2.2.2), [])
  | _ => none
theorem s_lushr {x : Cx} {cc : ByteArray} {nL : Nat} {own nm : String} {ret : Option FieldType} {d : Nat} (F : Fx x cc nL own nm ret d) {pc : Nat}  (hd : decode cc pc = .ok (.lushr, 1)) : Snd x nL (pc, o_lushr) := by
  obtain ⟨p, l, e, R, s, m, args, below, meth, c, D, cA, A, Q⟩ := x
  obtain ⟨hx, hb, hml, hown, hts, hK, hA, hfr, hlo, hrt, hlk, hnm⟩ := F
  intro g o lv st ws o' S' ob h hob k
  unfold o_lushr at h
  rcases st with _ | ⟨v, _ | ⟨u, st⟩⟩
  · cases h
  · cases v <;> cases h
  · cases v <;> cases u <;> first | (cases h; done) | skip
    cases h
    intro H locs ls hl hP hD hS hG
    exact lv_lushr hx hb hd rfl (k H locs ls hl hP hD hS hG)
def o_iushr : Op := fun o S => match S.2.2.1 with
  | .int y :: .int x :: st => some (o, (S.1 + 1, S.2.1, .int ((x.toUInt32 >>> (y.toUInt32 &&& Int32.toUInt32 31)).toInt32) :: st, S.2.2.2), [])
  | _ => none
theorem s_iushr {x : Cx} {cc : ByteArray} {nL : Nat} {own nm : String} {ret : Option FieldType} {d : Nat} (F : Fx x cc nL own nm ret d) {pc : Nat}  (hd : decode cc pc = .ok (.iushr, 1)) : Snd x nL (pc, o_iushr) := by
  obtain ⟨p, l, e, R, s, m, args, below, meth, c, D, cA, A, Q⟩ := x
  obtain ⟨hx, hb, hml, hown, hts, hK, hA, hfr, hlo, hrt, hlk, hnm⟩ := F
  intro g o lv st ws o' S' ob h hob k
  unfold o_iushr at h
  rcases st with _ | ⟨v, _ | ⟨u, st⟩⟩
  · cases h
  · cases v <;> cases h
  · cases v <;> cases u <;> first | (cases h; done) | skip
    cases h
    intro H locs ls hl hP hD hS hG
    exact lv_iushr hx hb hd rfl (k H locs ls hl hP hD hS hG)
def o_lcmp : Op := fun o S => match S.2.2.1 with
  | .long y :: .long x :: st => some (o, (S.1 + 1, S.2.1, .int (lg_cmp x y) :: st, S.2.2.2), [])
  | _ => none
theorem s_lcmp {x : Cx} {cc : ByteArray} {nL : Nat} {own nm : String} {ret : Option FieldType} {d : Nat} (F : Fx x cc nL own nm ret d) {pc : Nat}  (hd : decode cc pc = .ok (.lcmp, 1)) : Snd x nL (pc, o_lcmp) := by
  obtain ⟨p, l, e, R, s, m, args, below, meth, c, D, cA, A, Q⟩ := x
  obtain ⟨hx, hb, hml, hown, hts, hK, hA, hfr, hlo, hrt, hlk, hnm⟩ := F
  intro g o lv st ws o' S' ob h hob k
  unfold o_lcmp at h
  rcases st with _ | ⟨v, _ | ⟨u, st⟩⟩
  · cases h
  · cases v <;> cases h
  · cases v <;> cases u <;> first | (cases h; done) | skip
    cases h
    intro H locs ls hl hP hD hS hG
    exact W.lcmp hx hb hd (k H locs ls hl hP hD hS hG)
def o_i2l : Op := fun o S => match S.2.2.1 with
  | .int x :: st => some (o, (S.1 + 1, S.2.1, .long x.toInt64 :: st, S.2.2.2), [])
  | _ => none
theorem s_i2l {x : Cx} {cc : ByteArray} {nL : Nat} {own nm : String} {ret : Option FieldType} {d : Nat} (F : Fx x cc nL own nm ret d) {pc : Nat}  (hd : decode cc pc = .ok (.i2l, 1)) : Snd x nL (pc, o_i2l) := by
  obtain ⟨p, l, e, R, s, m, args, below, meth, c, D, cA, A, Q⟩ := x
  obtain ⟨hx, hb, hml, hown, hts, hK, hA, hfr, hlo, hrt, hlk, hnm⟩ := F
  intro g o lv st ws o' S' ob h hob k
  unfold o_i2l at h
  rcases st with _ | ⟨v, st⟩
  · cases h
  · cases v <;> first | (cases h; done) | skip
    cases h
    intro H locs ls hl hP hD hS hG
    exact lv_i2l hx hb hd rfl (k H locs ls hl hP hD hS hG)
def o_l2i : Op := fun o S => match S.2.2.1 with
  | .long x :: st => some (o, (S.1 + 1, S.2.1, .int x.toInt32 :: st, S.2.2.2), [])
  | _ => none
theorem s_l2i {x : Cx} {cc : ByteArray} {nL : Nat} {own nm : String} {ret : Option FieldType} {d : Nat} (F : Fx x cc nL own nm ret d) {pc : Nat}  (hd : decode cc pc = .ok (.l2i, 1)) : Snd x nL (pc, o_l2i) := by
  obtain ⟨p, l, e, R, s, m, args, below, meth, c, D, cA, A, Q⟩ := x
  obtain ⟨hx, hb, hml, hown, hts, hK, hA, hfr, hlo, hrt, hlk, hnm⟩ := F
  intro g o lv st ws o' S' ob h hob k
  unfold o_l2i at h
  rcases st with _ | ⟨v, st⟩
  · cases h
  · cases v <;> first | (cases h; done) | skip
    cases h
    intro H locs ls hl hP hD hS hG
    exact lv_l2i hx hb hd rfl (k H locs ls hl hP hD hS hG)
def o_i2b : Op := fun o S => match S.2.2.1 with
  | .int x :: st => some (o, (S.1 + 1, S.2.1, .int x.toInt8.toInt32 :: st, S.2.2.2), [])
  | _ => none
theorem s_i2b {x : Cx} {cc : ByteArray} {nL : Nat} {own nm : String} {ret : Option FieldType} {d : Nat} (F : Fx x cc nL own nm ret d) {pc : Nat}  (hd : decode cc pc = .ok (.i2b, 1)) : Snd x nL (pc, o_i2b) := by
  obtain ⟨p, l, e, R, s, m, args, below, meth, c, D, cA, A, Q⟩ := x
  obtain ⟨hx, hb, hml, hown, hts, hK, hA, hfr, hlo, hrt, hlk, hnm⟩ := F
  intro g o lv st ws o' S' ob h hob k
  unfold o_i2b at h
  rcases st with _ | ⟨v, st⟩
  · cases h
  · cases v <;> first | (cases h; done) | skip
    cases h
    intro H locs ls hl hP hD hS hG
    exact lv_i2b hx hb hd rfl (k H locs ls hl hP hD hS hG)
def o_dup : Op := fun o S => match S.2.2.1 with
  | v :: st => bif Nat.beq v.category 1 then some (o, (S.1 + 1, S.2.1, v :: v :: st, S.2.2.2), []) else none
  | _ => none
theorem s_dup {x : Cx} {cc : ByteArray} {nL : Nat} {own nm : String} {ret : Option FieldType} {d : Nat} (F : Fx x cc nL own nm ret d) {pc : Nat}  (hd : decode cc pc = .ok (.dup, 1)) : Snd x nL (pc, o_dup) := by
  obtain ⟨p, l, e, R, s, m, args, below, meth, c, D, cA, A, Q⟩ := x
  obtain ⟨hx, hb, hml, hown, hts, hK, hA, hfr, hlo, hrt, hlk, hnm⟩ := F
  intro g o lv st ws o' S' ob h hob k
  unfold o_dup at h
  rcases st with _ | ⟨v, st⟩
  · cases h
  · cases hc : Nat.beq v.category 1 with
    | false => simp only [hc, cond_false] at h; cases h
    | true =>
      simp only [hc, cond_true] at h
      cases h
      intro H locs ls hl hP hD hS hG
      exact lv_dup hx hb hd ((jV_cat g.1 v).trans (Nat.eq_of_beq_eq_true hc)) (k H locs ls hl hP hD hS hG)
def o_pop : Op := fun o S => match S.2.2.1 with
  | v :: st => bif Nat.beq v.category 1 then some (o, (S.1 + 1, S.2.1, st, S.2.2.2), []) else none
  | _ => none
theorem s_pop {x : Cx} {cc : ByteArray} {nL : Nat} {own nm : String} {ret : Option FieldType} {d : Nat} (F : Fx x cc nL own nm ret d) {pc : Nat}  (hd : decode cc pc = .ok (.pop, 1)) : Snd x nL (pc, o_pop) := by
  obtain ⟨p, l, e, R, s, m, args, below, meth, c, D, cA, A, Q⟩ := x
  obtain ⟨hx, hb, hml, hown, hts, hK, hA, hfr, hlo, hrt, hlk, hnm⟩ := F
  intro g o lv st ws o' S' ob h hob k
  unfold o_pop at h
  rcases st with _ | ⟨v, st⟩
  · cases h
  · cases hc : Nat.beq v.category 1 with
    | false => simp only [hc, cond_false] at h; cases h
    | true =>
      simp only [hc, cond_true] at h
      cases h
      intro H locs ls hl hP hD hS hG
      exact lv_pop hx hb hd ((jV_cat g.1 v).trans (Nat.eq_of_beq_eq_true hc)) (k H locs ls hl hP hD hS hG)
def o_dup2 : Op := fun o S => match S.2.2.1 with
  | v :: u :: st => bif Nat.beq v.category 1 then (bif Nat.beq u.category 1 then some (o, (S.1 + 1, S.2.1, v :: u :: v :: u :: st, S.2.2.2), []) else none) else none
  | _ => none
theorem s_dup2 {x : Cx} {cc : ByteArray} {nL : Nat} {own nm : String} {ret : Option FieldType} {d : Nat} (F : Fx x cc nL own nm ret d) {pc : Nat}  (hd : decode cc pc = .ok (.dup2, 1)) : Snd x nL (pc, o_dup2) := by
  obtain ⟨p, l, e, R, s, m, args, below, meth, c, D, cA, A, Q⟩ := x
  obtain ⟨hx, hb, hml, hown, hts, hK, hA, hfr, hlo, hrt, hlk, hnm⟩ := F
  intro g o lv st ws o' S' ob h hob k
  unfold o_dup2 at h
  rcases st with _ | ⟨v, _ | ⟨u, st⟩⟩
  · cases h
  · cases h
  · cases hc : Nat.beq v.category 1 with
    | false => simp only [hc, cond_false] at h; cases h
    | true =>
      cases hc2 : Nat.beq u.category 1 with
      | false => simp only [hc, hc2, cond_true, cond_false] at h; cases h
      | true =>
        simp only [hc, hc2, cond_true] at h
        cases h
        intro H locs ls hl hP hD hS hG
        exact lv_dup2_11 hx hb hd ((jV_cat g.1 v).trans (Nat.eq_of_beq_eq_true hc)) ((jV_cat g.1 u).trans (Nat.eq_of_beq_eq_true hc2)) (k H locs ls hl hP hD hS hG)
def o_icmp_lt (t : Nat) : Op := fun o S => match o, S.2.2.1 with
  | 0 :: o, .int y :: .int x :: st => some (o, (S.1 + 3, S.2.1, st, S.2.2.2), [¬ x < y])
  | (_ + 1) :: o, .int y :: .int x :: st => some (o, (t, S.2.1, st, S.2.2.2), [x < y])
  | _, _ => none
theorem s_icmp_lt {x : Cx} {cc : ByteArray} {nL : Nat} {own nm : String} {ret : Option FieldType} {d : Nat} (F : Fx x cc nL own nm ret d) {pc : Nat} {off : Int} {t : Nat} (ht : (pc : Int) + off = (t : Int)) (hd : decode cc pc = .ok (.if_icmp .lt off, 3)) : Snd x nL (pc, o_icmp_lt t) := by
  obtain ⟨p, l, e, R, s, m, args, below, meth, c, D, cA, A, Q⟩ := x
  obtain ⟨hx, hb, hml, hown, hts, hK, hA, hfr, hlo, hrt, hlk, hnm⟩ := F
  intro g o lv st ws o' S' ob h hob k
  unfold o_icmp_lt at h
  rcases o with _ | ⟨_ | a, o⟩ <;> rcases st with _ | ⟨v, _ | ⟨u, st⟩⟩ <;> first | (cases h; done) | (cases v <;> cases h; done) | skip
  · cases v <;> cases u <;> first | (cases h; done) | skip
    cases h
    intro H locs ls hl hP hD hS hG
    exact lv_icmp_lt hx hb hd ht (fun q => absurd q hob.1) (fun _ => k H locs ls hl hP hD hS hG)
  · cases v <;> cases u <;> first | (cases h; done) | skip
    cases h
    intro H locs ls hl hP hD hS hG
    exact lv_icmp_lt hx hb hd ht (fun _ => k H locs ls hl hP hD hS hG) (fun q => absurd hob.1 q)
def o_icmp_ge (t : Nat) : Op := fun o S => match o, S.2.2.1 with
  | 0 :: o, .int y :: .int x :: st => some (o, (S.1 + 3, S.2.1, st, S.2.2.2), [¬ y ≤ x])
  | (_ + 1) :: o, .int y :: .int x :: st => some (o, (t, S.2.1, st, S.2.2.2), [y ≤ x])
  | _, _ => none
theorem s_icmp_ge {x : Cx} {cc : ByteArray} {nL : Nat} {own nm : String} {ret : Option FieldType} {d : Nat} (F : Fx x cc nL own nm ret d) {pc : Nat} {off : Int} {t : Nat} (ht : (pc : Int) + off = (t : Int)) (hd : decode cc pc = .ok (.if_icmp .ge off, 3)) : Snd x nL (pc, o_icmp_ge t) := by
  obtain ⟨p, l, e, R, s, m, args, below, meth, c, D, cA, A, Q⟩ := x
  obtain ⟨hx, hb, hml, hown, hts, hK, hA, hfr, hlo, hrt, hlk, hnm⟩ := F
  intro g o lv st ws o' S' ob h hob k
  unfold o_icmp_ge at h
  rcases o with _ | ⟨_ | a, o⟩ <;> rcases st with _ | ⟨v, _ | ⟨u, st⟩⟩ <;> first | (cases h; done) | (cases v <;> cases h; done) | skip
  · cases v <;> cases u <;> first | (cases h; done) | skip
    cases h
    intro H locs ls hl hP hD hS hG
    exact lv_icmp_ge hx hb hd ht (fun q => absurd q hob.1) (fun _ => k H locs ls hl hP hD hS hG)
  · cases v <;> cases u <;> first | (cases h; done) | skip
    cases h
    intro H locs ls hl hP hD hS hG
    exact lv_icmp_ge hx hb hd ht (fun _ => k H locs ls hl hP hD hS hG) (fun q => absurd hob.1 q)
def o_icmp_gt (t : Nat) : Op := fun o S => match o, S.2.2.1 with
  | 0 :: o, .int y :: .int x :: st => some (o, (S.1 + 3, S.2.1, st, S.2.2.2), [¬ y < x])
  | (_ + 1) :: o, .int y :: .int x :: st => some (o, (t, S.2.1, st, S.2.2.2), [y < x])
  | _, _ => none
theorem s_icmp_gt {x : Cx} {cc : ByteArray} {nL : Nat} {own nm : String} {ret : Option FieldType} {d : Nat} (F : Fx x cc nL own nm ret d) {pc : Nat} {off : Int} {t : Nat} (ht : (pc : Int) + off = (t : Int)) (hd : decode cc pc = .ok (.if_icmp .gt off, 3)) : Snd x nL (pc, o_icmp_gt t) := by
  obtain ⟨p, l, e, R, s, m, args, below, meth, c, D, cA, A, Q⟩ := x
  obtain ⟨hx, hb, hml, hown, hts, hK, hA, hfr, hlo, hrt, hlk, hnm⟩ := F
  intro g o lv st ws o' S' ob h hob k
  unfold o_icmp_gt at h
  rcases o with _ | ⟨_ | a, o⟩ <;> rcases st with _ | ⟨v, _ | ⟨u, st⟩⟩ <;> first | (cases h; done) | (cases v <;> cases h; done) | skip
  · cases v <;> cases u <;> first | (cases h; done) | skip
    cases h
    intro H locs ls hl hP hD hS hG
    exact lv_icmp_gt hx hb hd ht (fun q => absurd q hob.1) (fun _ => k H locs ls hl hP hD hS hG)
  · cases v <;> cases u <;> first | (cases h; done) | skip
    cases h
    intro H locs ls hl hP hD hS hG
    exact lv_icmp_gt hx hb hd ht (fun _ => k H locs ls hl hP hD hS hG) (fun q => absurd hob.1 q)
def o_icmp_le (t : Nat) : Op := fun o S => match o, S.2.2.1 with
  | 0 :: o, .int y :: .int x :: st => some (o, (S.1 + 3, S.2.1, st, S.2.2.2), [¬ x ≤ y])
  | (_ + 1) :: o, .int y :: .int x :: st => some (o, (t, S.2.1, st, S.2.2.2), [x ≤ y])
  | _, _ => none
theorem s_icmp_le {x : Cx} {cc : ByteArray} {nL : Nat} {own nm : String} {ret : Option FieldType} {d : Nat} (F : Fx x cc nL own nm ret d) {pc : Nat} {off : Int} {t : Nat} (ht : (pc : Int) + off = (t : Int)) (hd : decode cc pc = .ok (.if_icmp .le off, 3)) : Snd x nL (pc, o_icmp_le t) := by
  obtain ⟨p, l, e, R, s, m, args, below, meth, c, D, cA, A, Q⟩ := x
  obtain ⟨hx, hb, hml, hown, hts, hK, hA, hfr, hlo, hrt, hlk, hnm⟩ := F
  intro g o lv st ws o' S' ob h hob k
  unfold o_icmp_le at h
  rcases o with _ | ⟨_ | a, o⟩ <;> rcases st with _ | ⟨v, _ | ⟨u, st⟩⟩ <;> first | (cases h; done) | (cases v <;> cases h; done) | skip
  · cases v <;> cases u <;> first | (cases h; done) | skip
    cases h
    intro H locs ls hl hP hD hS hG
    exact lv_icmp_le hx hb hd ht (fun q => absurd q hob.1) (fun _ => k H locs ls hl hP hD hS hG)
  · cases v <;> cases u <;> first | (cases h; done) | skip
    cases h
    intro H locs ls hl hP hD hS hG
    exact lv_icmp_le hx hb hd ht (fun _ => k H locs ls hl hP hD hS hG) (fun q => absurd hob.1 q)
def o_icmp_eq (t : Nat) : Op := fun o S => match o, S.2.2.1 with
  | 0 :: o, .int y :: .int x :: st => some (o, (S.1 + 3, S.2.1, st, S.2.2.2), [¬ x = y])
  | (_ + 1) :: o, .int y :: .int x :: st => some (o, (t, S.2.1, st, S.2.2.2), [x = y])
  | _, _ => none
theorem s_icmp_eq {x : Cx} {cc : ByteArray} {nL : Nat} {own nm : String} {ret : Option FieldType} {d : Nat} (F : Fx x cc nL own nm ret d) {pc : Nat} {off : Int} {t : Nat} (ht : (pc : Int) + off = (t : Int)) (hd : decode cc pc = .ok (.if_icmp .eq off, 3)) : Snd x nL (pc, o_icmp_eq t) := by
  obtain ⟨p, l, e, R, s, m, args, below, meth, c, D, cA, A, Q⟩ := x
  obtain ⟨hx, hb, hml, hown, hts, hK, hA, hfr, hlo, hrt, hlk, hnm⟩ := F
  intro g o lv st ws o' S' ob h hob k
  unfold o_icmp_eq at h
  rcases o with _ | ⟨_ | a, o⟩ <;> rcases st with _ | ⟨v, _ | ⟨u, st⟩⟩ <;> first | (cases h; done) | (cases v <;> cases h; done) | skip
  · cases v <;> cases u <;> first | (cases h; done) | skip
    cases h
    intro H locs ls hl hP hD hS hG
    exact lv_icmp_eq hx hb hd ht (fun q => absurd q hob.1) (fun _ => k H locs ls hl hP hD hS hG)
  · cases v <;> cases u <;> first | (cases h; done) | skip
    cases h
    intro H locs ls hl hP hD hS hG
    exact lv_icmp_eq hx hb hd ht (fun _ => k H locs ls hl hP hD hS hG) (fun q => absurd hob.1 q)
def o_icmp_ne (t : Nat) : Op := fun o S => match o, S.2.2.1 with
  | 0 :: o, .int y :: .int x :: st => some (o, (S.1 + 3, S.2.1, st, S.2.2.2), [x = y])
  | (_ + 1) :: o, .int y :: .int x :: st => some (o, (t, S.2.1, st, S.2.2.2), [¬ x = y])
  | _, _ => none
theorem s_icmp_ne {x : Cx} {cc : ByteArray} {nL : Nat} {own nm : String} {ret : Option FieldType} {d : Nat} (F : Fx x cc nL own nm ret d) {pc : Nat} {off : Int} {t : Nat} (ht : (pc : Int) + off = (t : Int)) (hd : decode cc pc = .ok (.if_icmp .ne off, 3)) : Snd x nL (pc, o_icmp_ne t) := by
  obtain ⟨p, l, e, R, s, m, args, below, meth, c, D, cA, A, Q⟩ := x
  obtain ⟨hx, hb, hml, hown, hts, hK, hA, hfr, hlo, hrt, hlk, hnm⟩ := F
  intro g o lv st ws o' S' ob h hob k
  unfold o_icmp_ne at h
  rcases o with _ | ⟨_ | a, o⟩ <;> rcases st with _ | ⟨v, _ | ⟨u, st⟩⟩ <;> first | (cases h; done) | (cases v <;> cases h; done) | skip
  · cases v <;> cases u <;> first | (cases h; done) | skip
    cases h
    intro H locs ls hl hP hD hS hG
    exact lv_icmp_ne hx hb hd ht (fun q => absurd hob.1 q) (fun _ => k H locs ls hl hP hD hS hG)
  · cases v <;> cases u <;> first | (cases h; done) | skip
    cases h
    intro H locs ls hl hP hD hS hG
    exact lv_icmp_ne hx hb hd ht (fun _ => k H locs ls hl hP hD hS hG) (fun q => absurd q hob.1)
def o_if_lt (t : Nat) : Op := fun o S => match o, S.2.2.1 with
  | 0 :: o, .int x :: st => some (o, (S.1 + 3, S.2.1, st, S.2.2.2), [¬ x < 0])
  | (_ + 1) :: o, .int x :: st => some (o, (t, S.2.1, st, S.2.2.2), [x < 0])
  | _, _ => none
theorem s_if_lt {x : Cx} {cc : ByteArray} {nL : Nat} {own nm : String} {ret : Option FieldType} {d : Nat} (F : Fx x cc nL own nm ret d) {pc : Nat} {off : Int} {t : Nat} (ht : (pc : Int) + off = (t : Int)) (hd : decode cc pc = .ok (.ifCond .lt off, 3)) : Snd x nL (pc, o_if_lt t) := by
  obtain ⟨p, l, e, R, s, m, args, below, meth, c, D, cA, A, Q⟩ := x
  obtain ⟨hx, hb, hml, hown, hts, hK, hA, hfr, hlo, hrt, hlk, hnm⟩ := F
  intro g o lv st ws o' S' ob h hob k
  unfold o_if_lt at h
  rcases o with _ | ⟨_ | a, o⟩ <;> rcases st with _ | ⟨v, st⟩ <;> first | (cases h; done) | skip
  · cases v <;> first | (cases h; done) | skip
    cases h
    intro H locs ls hl hP hD hS hG
    exact lv_if_lt hx hb hd ht (fun q => absurd q hob.1) (fun _ => k H locs ls hl hP hD hS hG)
  · cases v <;> first | (cases h; done) | skip
    cases h
    intro H locs ls hl hP hD hS hG
    exact lv_if_lt hx hb hd ht (fun _ => k H locs ls hl hP hD hS hG) (fun q => absurd hob.1 q)
def o_if_ge (t : Nat) : Op := fun o S => match o, S.2.2.1 with
  | 0 :: o, .int x :: st => some (o, (S.1 + 3, S.2.1, st, S.2.2.2), [¬ 0 ≤ x])
  | (_ + 1) :: o, .int x :: st => some (o, (t, S.2.1, st, S.2.2.2), [0 ≤ x])
  | _, _ => none
theorem s_if_ge {x : Cx} {cc : ByteArray} {nL : Nat} {own nm : String} {ret : Option FieldType} {d : Nat} (F : Fx x cc nL own nm ret d) {pc : Nat} {off : Int} {t : Nat} (ht : (pc : Int) + off = (t : Int)) (hd : decode cc pc = .ok (.ifCond .ge off, 3)) : Snd x nL (pc, o_if_ge t) := by
  obtain ⟨p, l, e, R, s, m, args, below, meth, c, D, cA, A, Q⟩ := x
  obtain ⟨hx, hb, hml, hown, hts, hK, hA, hfr, hlo, hrt, hlk, hnm⟩ := F
  intro g o lv st ws o' S' ob h hob k
  unfold o_if_ge at h
  rcases o with _ | ⟨_ | a, o⟩ <;> rcases st with _ | ⟨v, st⟩ <;> first | (cases h; done) | skip
  · cases v <;> first | (cases h; done) | skip
    cases h
    intro H locs ls hl hP hD hS hG
    exact lv_if_ge hx hb hd ht (fun q => absurd q hob.1) (fun _ => k H locs ls hl hP hD hS hG)
  · cases v <;> first | (cases h; done) | skip
    cases h
    intro H locs ls hl hP hD hS hG
    exact lv_if_ge hx hb hd ht (fun _ => k H locs ls hl hP hD hS hG) (fun q => absurd hob.1 q)
def o_if_gt (t : Nat) : Op := fun o S => match o, S.2.2.1 with
  | 0 :: o, .int x :: st => some (o, (S.1 + 3, S.2.1, st, S.2.2.2), [¬ 0 < x])
  | (_ + 1) :: o, .int x :: st => some (o, (t, S.2.1, st, S.2.2.2), [0 < x])
  | _, _ => none
theorem s_if_gt {x : Cx} {cc : ByteArray} {nL : Nat} {own nm : String} {ret : Option FieldType} {d : Nat} (F : Fx x cc nL own nm ret d) {pc : Nat} {off : Int} {t : Nat} (ht : (pc : Int) + off = (t : Int)) (hd : decode cc pc = .ok (.ifCond .gt off, 3)) : Snd x nL (pc, o_if_gt t) := by
  obtain ⟨p, l, e, R, s, m, args, below, meth, c, D, cA, A, Q⟩ := x
  obtain ⟨hx, hb, hml, hown, hts, hK, hA, hfr, hlo, hrt, hlk, hnm⟩ := F
  intro g o lv st ws o' S' ob h hob k
  unfold o_if_gt at h
  rcases o with _ | ⟨_ | a, o⟩ <;> rcases st with _ | ⟨v, st⟩ <;> first | (cases h; done) | skip
  · cases v <;> first | (cases h; done) | skip
    cases h
    intro H locs ls hl hP hD hS hG
    exact lv_if_gt hx hb hd ht (fun q => absurd q hob.1) (fun _ => k H locs ls hl hP hD hS hG)
  · cases v <;> first | (cases h; done) | skip
    cases h
    intro H locs ls hl hP hD hS hG
    exact lv_if_gt hx hb hd ht (fun _ => k H locs ls hl hP hD hS hG) (fun q => absurd hob.1 q)
def o_if_le (t : Nat) : Op := fun o S => match o, S.2.2.1 with
  | 0 :: o, .int x :: st => some (o, (S.1 + 3, S.2.1, st, S.2.2.2), [¬ x ≤ 0])
  | (_ + 1) :: o, .int x :: st => some (o, (t, S.2.1, st, S.2.2.2), [x ≤ 0])
  | _, _ => none
theorem s_if_le {x : Cx} {cc : ByteArray} {nL : Nat} {own nm : String} {ret : Option FieldType} {d : Nat} (F : Fx x cc nL own nm ret d) {pc : Nat} {off : Int} {t : Nat} (ht : (pc : Int) + off = (t : Int)) (hd : decode cc pc = .ok (.ifCond .le off, 3)) : Snd x nL (pc, o_if_le t) := by
  obtain ⟨p, l, e, R, s, m, args, below, meth, c, D, cA, A, Q⟩ := x
  obtain ⟨hx, hb, hml, hown, hts, hK, hA, hfr, hlo, hrt, hlk, hnm⟩ := F
  intro g o lv st ws o' S' ob h hob k
  unfold o_if_le at h
  rcases o with _ | ⟨_ | a, o⟩ <;> rcases st with _ | ⟨v, st⟩ <;> first | (cases h; done) | skip
  · cases v <;> first | (cases h; done) | skip
    cases h
    intro H locs ls hl hP hD hS hG
    exact lv_if_le hx hb hd ht (fun q => absurd q hob.1) (fun _ => k H locs ls hl hP hD hS hG)
  · cases v <;> first | (cases h; done) | skip
    cases h
    intro H locs ls hl hP hD hS hG
    exact lv_if_le hx hb hd ht (fun _ => k H locs ls hl hP hD hS hG) (fun q => absurd hob.1 q)
def o_if_eq (t : Nat) : Op := fun o S => match o, S.2.2.1 with
  | 0 :: o, .int x :: st => some (o, (S.1 + 3, S.2.1, st, S.2.2.2), [¬ x = 0])
  | (_ + 1) :: o, .int x :: st => some (o, (t, S.2.1, st, S.2.2.2), [x = 0])
  | _, _ => none
theorem s_if_eq {x : Cx} {cc : ByteArray} {nL : Nat} {own nm : String} {ret : Option FieldType} {d : Nat} (F : Fx x cc nL own nm ret d) {pc : Nat} {off : Int} {t : Nat} (ht : (pc : Int) + off = (t : Int)) (hd : decode cc pc = .ok (.ifCond .eq off, 3)) : Snd x nL (pc, o_if_eq t) := by
  obtain ⟨p, l, e, R, s, m, args, below, meth, c, D, cA, A, Q⟩ := x
  obtain ⟨hx, hb, hml, hown, hts, hK, hA, hfr, hlo, hrt, hlk, hnm⟩ := F
  intro g o lv st ws o' S' ob h hob k
  unfold o_if_eq at h
  rcases o with _ | ⟨_ | a, o⟩ <;> rcases st with _ | ⟨v, st⟩ <;> first | (cases h; done) | skip
  · cases v <;> first | (cases h; done) | skip
    cases h
    intro H locs ls hl hP hD hS hG
    exact lv_if_eq hx hb hd ht (fun q => absurd q hob.1) (fun _ => k H locs ls hl hP hD hS hG)
  · cases v <;> first | (cases h; done) | skip
    cases h
    intro H locs ls hl hP hD hS hG
    exact lv_if_eq hx hb hd ht (fun _ => k H locs ls hl hP hD hS hG) (fun q => absurd hob.1 q)
def o_if_ne (t : Nat) : Op := fun o S => match o, S.2.2.1 with
  | 0 :: o, .int x :: st => some (o, (S.1 + 3, S.2.1, st, S.2.2.2), [x = 0])
  | (_ + 1) :: o, .int x :: st => some (o, (t, S.2.1, st, S.2.2.2), [¬ x = 0])
  | _, _ => none
theorem s_if_ne {x : Cx} {cc : ByteArray} {nL : Nat} {own nm : String} {ret : Option FieldType} {d : Nat} (F : Fx x cc nL own nm ret d) {pc : Nat} {off : Int} {t : Nat} (ht : (pc : Int) + off = (t : Int)) (hd : decode cc pc = .ok (.ifCond .ne off, 3)) : Snd x nL (pc, o_if_ne t) := by
  obtain ⟨p, l, e, R, s, m, args, below, meth, c, D, cA, A, Q⟩ := x
  obtain ⟨hx, hb, hml, hown, hts, hK, hA, hfr, hlo, hrt, hlk, hnm⟩ := F
  intro g o lv st ws o' S' ob h hob k
  unfold o_if_ne at h
  rcases o with _ | ⟨_ | a, o⟩ <;> rcases st with _ | ⟨v, st⟩ <;> first | (cases h; done) | skip
  · cases v <;> first | (cases h; done) | skip
    cases h
    intro H locs ls hl hP hD hS hG
    exact lv_if_ne hx hb hd ht (fun q => absurd hob.1 q) (fun _ => k H locs ls hl hP hD hS hG)
  · cases v <;> first | (cases h; done) | skip
    cases h
    intro H locs ls hl hP hD hS hG
    exact lv_if_ne hx hb hd ht (fun _ => k H locs ls hl hP hD hS hG) (fun q => absurd q hob.1)
def o_ifnull (t : Nat) : Op := fun o S => match S.2.2.1 with
  | .ref _ :: st => some (o, (S.1 + 3, S.2.1, st, S.2.2.2), [])
  | .null :: st => some (o, (t, S.2.1, st, S.2.2.2), [])
  | _ => none
theorem s_ifnull {x : Cx} {cc : ByteArray} {nL : Nat} {own nm : String} {ret : Option FieldType} {d : Nat} (F : Fx x cc nL own nm ret d) {pc : Nat} {off : Int} {t : Nat} (ht : (pc : Int) + off = (t : Int)) (hd : decode cc pc = .ok (.ifnull off, 3)) : Snd x nL (pc, o_ifnull t) := by
  obtain ⟨p, l, e, R, s, m, args, below, meth, c, D, cA, A, Q⟩ := x
  obtain ⟨hx, hb, hml, hown, hts, hK, hA, hfr, hlo, hrt, hlk, hnm⟩ := F
  intro g o lv st ws o' S' ob h hob k
  unfold o_ifnull at h
  rcases st with _ | ⟨v, st⟩
  · cases h
  · cases v <;> first | (cases h; done) | skip
    · cases h
      intro H locs ls hl hP hD hS hG
      exact lv_ifnullN hx hb hd ht (k H locs ls hl hP hD hS hG)
    · cases h
      intro H locs ls hl hP hD hS hG
      exact lv_ifnull hx hb hd (k H locs ls hl hP hD hS hG)
def o_ifnonnull (t : Nat) : Op := fun o S => match S.2.2.1 with
  | .ref _ :: st => some (o, (t, S.2.1, st, S.2.2.2), [])
  | .null :: st => some (o, (S.1 + 3, S.2.1, st, S.2.2.2), [])
  | _ => none
theorem s_ifnonnull {x : Cx} {cc : ByteArray} {nL : Nat} {own nm : String} {ret : Option FieldType} {d : Nat} (F : Fx x cc nL own nm ret d) {pc : Nat} {off : Int} {t : Nat} (ht : (pc : Int) + off = (t : Int)) (hd : decode cc pc = .ok (.ifnonnull off, 3)) : Snd x nL (pc, o_ifnonnull t) := by
  obtain ⟨p, l, e, R, s, m, args, below, meth, c, D, cA, A, Q⟩ := x
  obtain ⟨hx, hb, hml, hown, hts, hK, hA, hfr, hlo, hrt, hlk, hnm⟩ := F
  intro g o lv st ws o' S' ob h hob k
  unfold o_ifnonnull at h
  rcases st with _ | ⟨v, st⟩
  · cases h
  · cases v <;> first | (cases h; done) | skip
    · cases h
      intro H locs ls hl hP hD hS hG
      exact lv_ifnonnullN hx hb hd (k H locs ls hl hP hD hS hG)
    · cases h
      intro H locs ls hl hP hD hS hG
      exact lv_ifnonnull hx hb hd ht (k H locs ls hl hP hD hS hG)
def o_goto (t : Nat) : Op := fun o S => some (o, (t, S.2.1, S.2.2.1, S.2.2.2), [])
theorem s_goto {x : Cx} {cc : ByteArray} {nL : Nat} {own nm : String} {ret : Option FieldType} {d : Nat} (F : Fx x cc nL own nm ret d) {pc : Nat} {off : Int} {t : Nat} (ht : (pc : Int) + off = (t : Int)) (hd : decode cc pc = .ok (.goto off, 3)) : Snd x nL (pc, o_goto t) := by
  obtain ⟨p, l, e, R, s, m, args, below, meth, c, D, cA, A, Q⟩ := x
  obtain ⟨hx, hb, hml, hown, hts, hK, hA, hfr, hlo, hrt, hlk, hnm⟩ := F
  intro g o lv st ws o' S' ob h hob k
  cases h
  intro H locs ls hl hP hD hS hG
  exact lv_goto hx hb hd ht (k H locs ls hl hP hD hS hG)
def o_switch (lo : Int) (hi : Int) (tg : List Nat) (df : Nat) : Op := fun o S => match o, S.2.2.1 with
  | 0 :: o, .int x :: st => some (o, (df, S.2.1, st, S.2.2.2), [x.toInt < lo ∨ hi < x.toInt])
  | (j + 1) :: o, .int x :: st => some (o, (tg.getD j 0, S.2.1, st, S.2.2.2), [x.toInt = lo + j ∧ lo + j ≤ hi])
  | _, _ => none
theorem s_switch {x : Cx} {cc : ByteArray} {nL : Nat} {own nm : String} {ret : Option FieldType} {d : Nat} (F : Fx x cc nL own nm ret d) {pc : Nat} {dflt lo hi : Int} {offs : Array Int} {len : Nat} {tg : List Nat} {df : Nat} (h0 : (pc : Int) + dflt = (df : Int)) (h1 : ∀ j : Nat, lo + j ≤ hi → ∃ off, offs[j]? = some off ∧ (pc : Int) + off = ((tg.getD j 0 : Nat) : Int)) (hd : decode cc pc = .ok (.tableswitch dflt lo hi offs, len)) : Snd x nL (pc, o_switch lo hi tg df) := by
  obtain ⟨p, l, e, R, s, m, args, below, meth, c, D, cA, A, Q⟩ := x
  obtain ⟨hx, hb, hml, hown, hts, hK, hA, hfr, hlo, hrt, hlk, hnm⟩ := F
  intro g o lv st ws o' S' ob h hob k
  unfold o_switch at h
  rcases o with _ | ⟨_ | a, o⟩ <;> rcases st with _ | ⟨v, st⟩ <;> first | (cases h; done) | skip
  · cases v <;> first | (cases h; done) | skip
    cases h
    intro H locs ls hl hP hD hS hG
    exact lv_tableOut hx hb hd hob.1 h0 (k H locs ls hl hP hD hS hG)
  · cases v <;> first | (cases h; done) | skip
    cases h
    intro H locs ls hl hP hD hS hG
    obtain ⟨q1, q2⟩ := hob.1
    obtain ⟨off, z1, z2⟩ := h1 a q2
    exact lv_tableIn hx hb hd (by omega) (by omega) (by rw [q1, show lo + (a : Int) - lo = (a : Int) by omega]; exact z1) z2 (k H locs ls hl hP hD hS hG)
def o_getf (ci k : Nat) : Op := fun o S => match S.2.2.1 with
  | .ref a :: st => match wget S.2.2.2 a with
    | some (.inl (c1, fs)) => bif Nat.beq c1 ci then (match gv fs k with
      | some v => some (o, (S.1 + 3, S.2.1, v :: st, S.2.2.2), [])
      | none => none) else none
    | _ => none
  | _ => none
theorem s_getf {x : Cx} {cc : ByteArray} {nL : Nat} {own nm : String} {ret : Option FieldType} {d : Nat} (F : Fx x cc nL own nm ret d) {pc : Nat} {C : String} {T : u_T} {N ci i : Nat} (hin : ∀ w ∈ u_ws C T N, w ∈ allW) (hc : vwCl[ci]? = some (C, T, N)) (k9 : Nat) (hk9 : k9 < N) (hw : Cond.fieldLink own i C (T k9).2.1 (T k9).2.2.1 ∈ allW) (hT : (T k9).1 = C) (hd : decode cc pc = .ok (.getfield i, 3)) : Snd x nL (pc, o_getf ci k9) := by
  obtain ⟨p, l, e, R, s, m, args, below, meth, c, D, cA, A, Q⟩ := x
  obtain ⟨hx, hb, hml, hown, hts, hK, hA, hfr, hlo, hrt, hlk, hnm⟩ := F
  intro g o lv st ws o' S' ob h hob k
  unfold o_getf at h
  rcases st with _ | ⟨v, st⟩
  · cases h
  · cases v <;> first | (cases h; done) | skip
    rename_i a
    simp only at h
    cases hq : wget ws a with
    | none => simp only [hq] at h; cases h
    | some e1 =>
      rcases e1 with ⟨c1, fs⟩ | e1
      · simp only [hq] at h
        cases hc1 : Nat.beq c1 ci with
        | false => simp only [hc1, cond_false] at h; cases h
        | true =>
          simp only [hc1, cond_true] at h
          have e2 := Nat.eq_of_beq_eq_true hc1
          subst e2
          cases hv : gv fs k9 with
          | none => simp only [hv] at h; cases h
          | some v =>
            simp only [hv] at h
            cases h
            obtain ⟨j, hj, -⟩ := wget_at hq
            intro H locs ls hl hP hD hS hG
            refine va_get hx hb (own := own) (ref := C) hts hin hown hK hP j (jW_at hj) hc k9 hk9 (hts _ hw) (fun _ h9 => by rw [hT] at h9; exact h9) (v := jV g.1 v) ?_ hd (k H locs ls hl hP hD hS hG)
            rw [List.getElem?_map, ← gv_eq, hv]
            rfl
      · simp only [hq] at h; cases h
