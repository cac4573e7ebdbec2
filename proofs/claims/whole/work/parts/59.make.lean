/-! making: objects, arrays, constructors -/
def nin (a : Nat) (nk : List Nat) : Bool := nk.all (fun k => !(Nat.beq a k))
def frV (nk : List Nat) (v : Value) : Bool := match v with
  | .ref a => nin a nk
  | _ => true
def frQ (nk : List Nat) (r : Option Nat) : Bool := match r with
  | some b => nin b nk
  | none => true
def frE (nk : List Nat) (e : Pe) : Bool := match e with
  | .inl o => o.2.all (frV nk)
  | .inr (.inl _) => true
  | .inr (.inr a) => a.2.all (frQ nk)
def frW (nk : List Nat) (ws : Pw) : Bool := ws.all (fun q => nin q.1 nk && frE nk q.2)
def frS (nk : List Nat) (lv : List (Nat × Value)) (st : List Value) (ws : Pw) : Bool := lv.all (fun q => frV nk q.2) && (st.all (frV nk) && frW nk ws)
theorem nin_of {a : Nat} {nk : List Nat} (h : nin a nk = true) : a ∉ nk := by
  intro hm
  have := List.all_eq_true.mp h a hm
  rw [Nat.beq_refl] at this
  cases this
theorem frV_ad {nk : List Nat} {ad ad' : Nat → Nat} (hd : ∀ i, i ∉ nk → ad' i = ad i) {v : Value} (h : frV nk v = true) : jV ad' v = jV ad v := by
  cases v <;> first | rfl | skip
  rename_i a
  show Value.ref (ad' a) = .ref (ad a)
  rw [hd a (nin_of h)]
theorem frVs_ad {nk : List Nat} {ad ad' : Nat → Nat} (hd : ∀ i, i ∉ nk → ad' i = ad i) {st : List Value} (h : st.all (frV nk) = true) : st.map (jV ad') = st.map (jV ad) :=
  List.map_congr_left fun v hv => frV_ad hd (List.all_eq_true.mp h v hv)
theorem frL_ad {nk : List Nat} {ad ad' : Nat → Nat} (hd : ∀ i, i ∉ nk → ad' i = ad i) {lv : List (Nat × Value)} (h : lv.all (fun q => frV nk q.2) = true) : jL ad' lv = jL ad lv := by
  unfold jL
  refine List.map_congr_left fun q hq => ?_
  rw [frV_ad hd (List.all_eq_true.mp h q hq)]
theorem frE_ad {nk : List Nat} {ad ad' : Nat → Nat} (hd : ∀ i, i ∉ nk → ad' i = ad i) {cA : Nat → ClassId} {e : Pe} (h : frE nk e = true) : jE cA ad' e = jE cA ad e := by
  rcases e with o | a | a
  · show Sum.inr (o.1, o.2.map (jV ad')) = Sum.inr (o.1, o.2.map (jV ad))
    rw [frVs_ad hd h]
  · rfl
  · have hg : ∀ (l : List (Option Nat)) (j : Nat), l.all (frQ nk) = true → (ga l j).map ad' = (ga l j).map ad := by
      intro l
      induction l with
      | nil => intro j _; rfl
      | cons r l ih =>
        intro j hl
        rw [List.all_cons, Bool.and_eq_true] at hl
        cases j with
        | succ j => exact ih j hl.2
        | zero =>
          show r.map ad' = r.map ad
          cases r with
          | none => rfl
          | some b => show some (ad' b) = some (ad b); rw [hd b (nin_of hl.1)]
    show Sum.inl _ = Sum.inl _
    congr 7
    funext j
    exact hg a.2 j h
theorem frW_ad {nk : List Nat} {ad ad' : Nat → Nat} (hd : ∀ i, i ∉ nk → ad' i = ad i) {cA : Nat → ClassId} {ws : Pw} (h : frW nk ws = true) : jW cA ad' ws = jW cA ad ws := by
  unfold jW
  refine List.map_congr_left fun q hq => ?_
  have hq2 := List.all_eq_true.mp h q hq
  rw [Bool.and_eq_true] at hq2
  rw [hd q.1 (nin_of hq2.1), frE_ad hd hq2.2]
theorem jW_app (cA : Nat → ClassId) (ad : Nat → Nat) (a b : Pw) : jW cA ad (a ++ b) = jW cA ad a ++ jW cA ad b := List.map_append
def Rx (x : Cx) (MC MS : Nat) : Prop := match x with
  | (p, l, e, R, s, m, args, below, meth, c, D, cA, A, Q) => MC ≤ R.cells ∧ MS ≤ R.slots
theorem jSx_ad {x : Cx} {nk : List Nat} {ad ad' : Nat → Nat} (hd : ∀ i, i ∉ nk → ad' i = ad i) (hk : nk.all (fun k => Nat.blt k 1000) = true) (h : jSx x ad) : jSx x ad' := by
  obtain ⟨p, l, e, R, s, m, args, below, meth, c, D, cA, A, Q⟩ := x
  obtain ⟨h1, h2, h4, h5, h6, h7⟩ := h
  have hb : ∀ i, 1000 ≤ i → ad' i = ad i := fun i hi => hd i fun hm => by
    have := Nat.le_of_ble_eq_true (List.all_eq_true.mp hk i hm)
    omega
  have e1 : (fun i => ad' (1000 + i)) = (fun i => ad (1000 + i)) := funext fun i => hb _ (by omega)
  have e2 : (fun i => ad' (1010 + i)) = (fun i => ad (1010 + i)) := funext fun i => hb _ (by omega)
  refine ⟨?_, fun i hi => ?_, h4, h5, h6, ?_⟩
  · rw [e1, e2]; exact h1
  · rw [hb _ (by omega)]; exact h2 i hi
  · rw [hb _ (by omega)]; exact h7
section MK
variable {x : Cx} {cc : ByteArray} {nL : Nat} {own nm : String} {ret : Option FieldType} {d : Nat}
theorem J.new (F : Fx x cc nL own nm ret d) {MC MS : Nat} (hR : Rx x MC MS) {ad : Nat → Nat} {cells slots pc idx ci N : Nat} {C : String} {T : u_T} (hin : ∀ w ∈ u_ws C T N, w ∈ allW) (ty : Nat → FieldType) (hty : ∀ k, k < N → parseFieldDescriptor (T k).2.2.1 = some (ty k)) (hc : vwCl[ci]? = some (C, T, N)) (h1 : Cond.classLink own idx C ∈ allW) (h2 : Cond.instantiable C N ∈ allW) (h3 : Cond.initialized C ∈ allW) (hd : decode cc pc = .ok (.new idx, 3)) (fs : List Value) (hfs : ∀ j, j < N → defaultValue (ty j) = vp_V fs j) (hz : ∀ ad' : Nat → Nat, fs.map (jV ad') = fs) (k : Nat) {lv : List (Nat × Value)} {st : List Value} {ws : Pw} (hf : frS [k] lv st ws = true) (hcl : Nat.ble (cells + 1) MC = true) (hsl : Nat.ble (slots + N) MS = true)
    (kk : ∀ ad' : Nat → Nat, (∀ i, i ∉ [k] → ad' i = ad i) → J x nL (ad', cells + 1, slots + N) (pc + 3, lv, .ref k :: st, ws ++ [(k, .inl (ci, fs))])) : J x nL (ad, cells, slots) (pc, lv, st, ws) := by
  obtain ⟨p, l, e, R, s, m, args, below, meth, c, D, cA, A, Q⟩ := x
  obtain ⟨hx, hb, hml, hown, hts, hK, hA, hfr, hlo, hrt, hlk, hnm⟩ := F
  have hf1 := Bool.and_eq_true_iff.mp hf
  have hf2 := Bool.and_eq_true_iff.mp hf1.2
  intro H locs ls hl hP hD hS hG
  have g1 : cells + 1 ≤ R.cells := Nat.le_trans (Nat.le_of_ble_eq_true hcl) hR.1
  have g2 : slots + N ≤ R.slots := Nat.le_trans (Nat.le_of_ble_eq_true hsl) hR.2
  refine va_new hx hb hts hin ty hty hown (hts _ h1) (hts _ h2) (hts _ h3) hK hP hD hS hA hc hfs g1 g2 hd (fun q H1 hP1 hD1 hS1 => ?_)
  have had : ∀ i, i ∉ [k] → (fun i => if i = k then q else ad i) i = ad i := fun i hi => if_neg (fun z => hi (by rw [z]; exact List.mem_cons_self))
  have hw : jW cA (fun i => if i = k then q else ad i) (ws ++ [((k, .inl (ci, fs)) : Nat × Pe)]) = jW cA ad ws ++ [((q, .inr (ci, fs)) : Nat × va_E)] := by
    rw [jW_app, frW_ad had hf2.2]
    show _ ++ [((if k = k then q else ad k), Sum.inr (ci, fs.map _))] = _
    rw [hz, if_pos rfl]
  have h := kk _ had H1 locs ls (by rw [frL_ad had hf1.1]; exact hl) (by rw [hw]; exact hP1) (by rw [hw]; exact hD1) hS1 ⟨g1, g2⟩
  rw [List.map_cons, frVs_ad had hf2.1, show jV (fun i => if i = k then q else ad i) (.ref k) = .ref q from congrArg Value.ref (if_pos rfl)] at h
  exact h
theorem gi_rep (N j : Nat) : gi (List.replicate N 0) j = 0 := by
  rw [gi_eq, List.getD_eq_getElem?_getD, List.getElem?_replicate]
  by_cases h : j < N <;> simp [h]
theorem ga_rep (N j : Nat) : ga (List.replicate N none) j = none := by
  rw [ga_eq, List.getD_eq_getElem?_getD, List.getElem?_replicate]
  by_cases h : j < N <;> simp [h]
theorem J.newa (F : Fx x cc nL own nm ret d) {MC MS : Nat} (hR : Rx x MC MS) {ad : Nat → Nat} {cells slots pc t : Nat} {atype : ArrayType} {ty : FieldType} (hty : newarray.typeOf atype = ty) (ht : ∀ cA : Nat → ClassId, (jT cA)[t]? = some (cA t, ty)) (hw : Cond.arrayClass ty ∈ allW) (hd : decode cc pc = .ok (.newarray atype, 2)) (hdef : defaultValue ty = .int 0) (hra : ∀ (s : State) (c : ClassId), va_RA s c ty → s.vm.findClass ("[" ++ ty.toString) = some c) {n : Int32} (N : Nat) (hn : ¬ n < 0) (hN : n.toNatClampNeg = N) (hby : Nat.ble (N * componentBytes ty) 536870912 = true) (l : List Int32) (hl9 : l = List.replicate N 0) (k : Nat) {lv : List (Nat × Value)} {st : List Value} {ws : Pw} (hf : frS [k] lv st ws = true) (hcl : Nat.ble (cells + 1) MC = true) (hsl : Nat.ble (slots + N) MS = true)
    (kk : ∀ ad' : Nat → Nat, (∀ i, i ∉ [k] → ad' i = ad i) → J x nL (ad', cells + 1, slots + N) (pc + 2, lv, .ref k :: st, ws ++ [(k, .inr (.inl (t, l)))])) : J x nL (ad, cells, slots) (pc, lv, .int n :: st, ws) := by
  obtain ⟨p, l0, e, R, s, m, args, below, meth, c, D, cA, A, Q⟩ := x
  obtain ⟨hx, hb, hml, hown, hts, hK, hA, hfr, hlo, hrt, hlk, hnm⟩ := F
  have hf1 := Bool.and_eq_true_iff.mp hf
  have hf2 := Bool.and_eq_true_iff.mp hf1.2
  subst hl9
  intro H locs ls hl hP hD hS hG
  have g1 : cells + 1 ≤ R.cells := Nat.le_trans (Nat.le_of_ble_eq_true hcl) hR.1
  have g2 : slots + N ≤ R.slots := Nat.le_trans (Nat.le_of_ble_eq_true hsl) hR.2
  refine va_newa (atype := atype) (ty := ty) (a0 := (N, .inl (fun j => gi (List.replicate N 0) j))) (N' := N) hx hb (by rw [hty]; exact hts _ hw) hty hK hP hD hS hA (fun c9 => ?_) hn hN (Nat.le_of_ble_eq_true hby) g1 g2 hd (fun q c9 H1 hK1 hP1 hD1 hS1 => ?_)
  · rw [vp_cell_i, hdef]
    congr 1
    funext j
    rw [gi_rep]
  have h7 : (jT cA ++ [(c9, ty)])[(jT cA).length]? = some (c9, ty) := by rw [List.getElem?_append_right (Nat.le_refl _), Nat.sub_self]; rfl
  have e1 := hra s c9 (hK1.2 _ _ h7).2
  have e2 := hra s (cA t) (hK.2 _ _ (ht cA)).2
  have e3 : c9 = cA t := Option.some.inj (e1.symm.trans e2)
  subst e3
  have had : ∀ i, i ∉ [k] → (fun i => if i = k then q else ad i) i = ad i := fun i hi => if_neg (fun z => hi (by rw [z]; exact List.mem_cons_self))
  have hw : jW cA (fun i => if i = k then q else ad i) (ws ++ [((k, .inr (.inl (t, List.replicate N 0))) : Nat × Pe)]) = jW cA ad ws ++ [((q, .inl (cA t, N, .inl (fun j => gi (List.replicate N 0) j))) : Nat × va_E)] := by
    rw [jW_app, frW_ad had hf2.2]
    show _ ++ [(((if k = k then q else ad k), .inl (cA t, (List.replicate N (0 : Int32)).length, .inl (fun j => gi (List.replicate N 0) j))) : Nat × va_E)] = _
    rw [List.length_replicate, if_pos rfl]
  have h := kk _ had H1 locs ls (by rw [frL_ad had hf1.1]; exact hl) (by rw [hw]; exact hP1) (by rw [hw]; exact hD1) hS1 ⟨g1, g2⟩
  rw [List.map_cons, frVs_ad had hf2.1, show jV (fun i => if i = k then q else ad i) (.ref k) = .ref q from congrArg Value.ref (if_pos rfl)] at h
  exact h
theorem J.newq (F : Fx x cc nL own nm ret d) {MC MS : Nat} (hR : Rx x MC MS) {ad : Nat → Nat} (hJ : jSx x ad) {cells slots pc idx : Nat} (hw : Cond.classLink own idx RX5 ∈ allW) (hd : decode cc pc = .ok (.anewarray idx, 3)) {n : Int32} (N : Nat) (hn : ¬ n < 0) (hN : n.toNatClampNeg = N) (hby : Nat.ble (N * 4) 536870912 = true) (l : List (Option Nat)) (hl9 : l = List.replicate N none) (k : Nat) {lv : List (Nat × Value)} {st : List Value} {ws : Pw} (hf : frS [k] lv st ws = true) (hcl : Nat.ble (cells + 1) MC = true) (hsl : Nat.ble (slots + N) MS = true)
    (kk : ∀ ad' : Nat → Nat, (∀ i, i ∉ [k] → ad' i = ad i) → J x nL (ad', cells + 1, slots + N) (pc + 3, lv, .ref k :: st, ws ++ [(k, .inr (.inr (3, l)))])) : J x nL (ad, cells, slots) (pc, lv, .int n :: st, ws) := by
  obtain ⟨p, l0, e, R, s, m, args, below, meth, c, D, cA, A, Q⟩ := x
  obtain ⟨hx, hb, hml, hown, hts, hK, hA, hfr, hlo, hrt, hlk, hnm⟩ := F
  have hf1 := Bool.and_eq_true_iff.mp hf
  have hf2 := Bool.and_eq_true_iff.mp hf1.2
  subst hl9
  intro H locs ls hl hP hD hS hG
  have g1 : cells + 1 ≤ R.cells := Nat.le_trans (Nat.le_of_ble_eq_true hcl) hR.1
  have g2 : slots + N ≤ R.slots := Nat.le_trans (Nat.le_of_ble_eq_true hsl) hR.2
  have h5 : va_AO RX5 s := hJ.2.2.2.1
  refine va_newq (N' := N) hx hb hown (hts _ hw) h5 hK hP hD hS hA hn hN (Nat.le_of_ble_eq_true hby) g1 g2 hd (fun q c9 H1 hK1 hP1 hD1 hS1 => ?_)
  have h7 : (jT cA ++ [(c9, .object RX5)])[(jT cA).length]? = some (c9, .object RX5) := by rw [List.getElem?_append_right (Nat.le_refl _), Nat.sub_self]; rfl
  have h8 : (jT cA)[3]? = some (cA 3, .object RX5) := rfl
  obtain ⟨-, -, -, -, -, e1⟩ := (hK1.2 _ _ h7).2
  obtain ⟨-, -, -, -, -, e2⟩ := (hK.2 _ _ h8).2
  have e3 : c9 = cA 3 := Option.some.inj (e1.symm.trans e2)
  subst e3
  have had : ∀ i, i ∉ [k] → (fun i => if i = k then q else ad i) i = ad i := fun i hi => if_neg (fun z => hi (by rw [z]; exact List.mem_cons_self))
  have hw : jW cA (fun i => if i = k then q else ad i) (ws ++ [((k, .inr (.inr (3, List.replicate N none))) : Nat × Pe)]) = jW cA ad ws ++ [((q, .inl (cA 3, N, .inr (.inr (.inr (.inr (fun _ => none)))))) : Nat × va_E)] := by
    rw [jW_app, frW_ad had hf2.2]
    show _ ++ [(((if k = k then q else ad k), .inl (cA 3, (List.replicate N (none : Option Nat)).length, .inr (.inr (.inr (.inr (fun j => (ga (List.replicate N none) j).map _)))))) : Nat × va_E)] = _
    rw [List.length_replicate, if_pos rfl]
    simp only [ga_rep, Option.map_none]
  have h := kk _ had H1 locs ls (by rw [frL_ad had hf1.1]; exact hl) (by rw [hw]; exact hP1) (by rw [hw]; exact hD1) hS1 ⟨g1, g2⟩
  rw [List.map_cons, frVs_ad had hf2.1, show jV (fun i => if i = k then q else ad i) (.ref k) = .ref q from congrArg Value.ref (if_pos rfl)] at h
  exact h
/-! three instructions more -/
def o_objI : Op := fun o S => match S.2.2.1 with
  | [.ref _] => some (o, (S.1 + 3, S.2.1, [], S.2.2.2), [])
  | _ => none
theorem s_objI (F : Fx x cc nL own nm ret d) {pc i : Nat} (hd1 : 1 ≤ d) (h1 : Cond.methodLink own i Lib.objectInit ∈ allW) (h2 : Cond.instanceMethod Lib.objectInit ∈ allW) (h3 : Cond.code Lib.objectInit ⟨#[0xb1]⟩ 1 none ∈ allW) (hd : decode cc pc = .ok (.invokespecial i, 3)) : Snd x nL (pc, o_objI) := by
  obtain ⟨p, l, e, R, s, m, args, below, meth, c, D, cA, A, Q⟩ := x
  obtain ⟨hx, hb, hml, hown, hts, hK, hA, hfr, hlo, hrt, hlk, hnm⟩ := F
  intro g o lv st ws o' S' ob h hob k
  unfold o_objI at h
  rcases st with _ | ⟨v, _ | ⟨u, st⟩⟩
  · cases h
  · cases v <;> first | (cases h; done) | skip
    cases h
    intro H locs ls hl hP hD hS hG
    refine W.objInit hx hb hown (hts _ h1) (hts _ h2) (hts _ h3) rfl (by rw [hml]; exact hl.1) rfl hd (by omega) ?_ ?_
    · show 2 * 0 + 0 + 12 ≤ R.locals
      omega
    · exact k H locs ls hl hP hD hS hG
  · cases v <;> cases h
def o_putA (ci k : Nat) : Op := fun o S => match S.2.2.1 with
  | .ref x :: .ref a :: st => match wget S.2.2.2 a with
    | some (.inl (c1, fs)) => bif (Nat.beq c1 ci && Nat.blt k fs.length) then some (o, (S.1 + 3, S.2.1, st, wset S.2.2.2 a (.inl (c1, fs.set k (.ref x)))), []) else none
    | _ => none
  | _ => none
theorem s_putA (F : Fx x cc nL own nm ret d) {pc : Nat} {C : String} {T : u_T} {N ci i : Nat} (hin : ∀ w ∈ u_ws C T N, w ∈ allW) (ty0 : Nat → FieldType) (hty : ∀ k, k < N → parseFieldDescriptor (T k).2.2.1 = some (ty0 k)) (hnm9 : ∀ a, a < N → ∀ b, b < N → a ≠ b → (T a).2.1 ≠ (T b).2.1) (hc : vwCl[ci]? = some (C, T, N)) (k9 : Nat) (hk9 : k9 < N) (hw : Cond.fieldLink own i C (T k9).2.1 (T k9).2.2.1 ∈ allW) (hT : (T k9).1 = C) (hfin : (T k9).2.2.2 = true) (hni : nm = "<init>") (hdecl : (T k9).1 = own) {ty : FieldType} (hds : parseFieldDescriptor (T k9).2.2.1 = some ty) (hnar : ∀ a, narrow ty (.ref a) = .ref a) (hfit : ∀ a, fits ty (.ref a) = true) (hd : decode cc pc = .ok (.putfield i, 3)) : Snd x nL (pc, o_putA ci k9) := by
  obtain ⟨p, l, e, R, s, m, args, below, meth, c, D, cA, A, Q⟩ := x
  obtain ⟨hx, hb, hml, hown, hts, hK, hA, hfr, hlo, hrt, hlk, hnm⟩ := F
  intro g o lv st ws o' S' ob h hob k
  unfold o_putA at h
  rcases st with _ | ⟨v, _ | ⟨u, st⟩⟩
  · cases h
  · cases v <;> cases h
  · cases v <;> cases u <;> first | (cases h; done) | skip
    rename_i z a
    dsimp only at h
    cases hq : wget ws a with
    | none => simp only [hq] at h; cases h
    | some e1 =>
      rcases e1 with ⟨c1, fs⟩ | e1
      · simp only [hq] at h
        cases hc1 : (Nat.beq c1 ci && Nat.blt k9 fs.length) with
        | false => simp only [hc1, cond_false] at h; cases h
        | true =>
          simp only [hc1, cond_true] at h
          obtain ⟨q1, q2⟩ := Bool.and_eq_true_iff.mp hc1
          have e2 := Nat.eq_of_beq_eq_true q1
          have e3 : k9 < fs.length := Nat.le_of_ble_eq_true q2
          subst e2
          cases h
          obtain ⟨j, hj, hs⟩ := wget_at hq
          intro H locs ls hl hP hD hS hG
          have hE : jE cA g.1 (.inl (c1, fs.set k9 (.ref z))) = .inr (c1, (fs.map (jV g.1)).set k9 (.ref (g.1 z))) := by
            show Sum.inr _ = _
            rw [List.map_set]
            rfl
          refine va_putF hx hb (own := own) (ref := C) hts hin ty0 hty hnm9 hown hK hP hD hS j (jW_at hj) hc k9 hk9 (hts _ hw) (fun _ h9 => by rw [hT] at h9; exact h9) hfin (hnm.trans hni) hdecl (ty := ty) hds (hnar _) (hfit _) (by rw [List.length_map]; exact e3) hd (fun H1 locs1 hP1 hD1 hS1 => k H1 locs1 ls hl ?_ ?_ hS1 hG)
          · rw [hs, jset hE]; exact hP1
          · rw [hs, jset hE]; exact hD1
      · simp only [hq] at h; cases h
theorem ga_set {l : List (Option Nat)} {k : Nat} (hk : k < l.length) (v : Option Nat) (ad : Nat → Nat) : (fun j => (ga (l.set k v) j).map ad) = va_up (fun j => (ga l j).map ad) k (v.map ad) := by
  funext j
  simp only [ga_eq, va_up, List.getD_eq_getElem?_getD, List.getElem?_set]
  by_cases h : j = k
  · subst h
    simp [hk]
  · simp [h, Ne.symm h]
def o_aast : Op := fun o S => match o, S.2.2.1 with
  | h :: o, .ref v :: .int i :: .ref a :: st => match wget S.2.2.2 a, wget S.2.2.2 v with
    | some (.inr (.inr (t1, l))), some (.inl (c1, _)) => bif (Nat.beq t1 3 && Nat.beq c1 5) then some (o, (S.1 + 1, S.2.1, st, wset S.2.2.2 a (.inr (.inr (t1, l.set h (some v))))), [ix i h l.length]) else none
    | _, _ => none
  | _, _ => none
theorem s_aast (F : Fx x cc nL own nm ret d) {pc : Nat} (hd : decode cc pc = .ok (.aastore, 1)) : Snd x nL (pc, o_aast) := by
  obtain ⟨p, l, e, R, s, m, args, below, meth, c, D, cA, A, Q⟩ := x
  obtain ⟨hx, hb, hml, hown, hts, hK, hA, hfr, hlo, hrt, hlk, hnm⟩ := F
  intro g o lv st ws o' S' ob h hob k
  unfold o_aast at h
  rcases o with _ | ⟨a9, o⟩ <;> rcases st with _ | ⟨v, _ | ⟨u, _ | ⟨w, st⟩⟩⟩ <;> first | (cases h; done) | (cases v <;> cases h; done) | (cases v <;> cases u <;> cases h; done) | skip
  cases v <;> cases u <;> cases w <;> first | (cases h; done) | skip
  rename_i v z a
  dsimp only at h
  cases hq : wget ws a with
  | none => simp only [hq] at h; cases h
  | some e1 =>
    rcases e1 with e1 | e1 | ⟨t1, l9⟩
    · simp only [hq] at h; cases h
    · simp only [hq] at h; cases h
    · cases hv : wget ws v with
      | none => simp only [hq, hv] at h; cases h
      | some e2 =>
        rcases e2 with ⟨c1, vs⟩ | e2
        · simp only [hq, hv] at h
          cases hc1 : (Nat.beq t1 3 && Nat.beq c1 5) with
          | false => simp only [hc1, cond_false] at h; cases h
          | true =>
            simp only [hc1, cond_true] at h
            obtain ⟨q1, q2⟩ := Bool.and_eq_true_iff.mp hc1
            have e3 := Nat.eq_of_beq_eq_true q1
            have e4 := Nat.eq_of_beq_eq_true q2
            subst e3
            subst e4
            cases h
            obtain ⟨j, hj, hs⟩ := wget_at hq
            obtain ⟨j2, hj2, -⟩ := wget_at hv
            intro H locs ls hl hP hD hS hG
            obtain ⟨h1, h2⟩ := hob.1
            have hE : jE cA g.1 (.inr (.inr (3, l9.set a9 (some v)))) = .inl (cA 3, l9.length, .inr (.inr (.inr (.inr (va_up (fun j => (ga l9 j).map g.1) z.toNatClampNeg (some (g.1 v))))))) := by
              show Sum.inl (cA 3, (l9.set a9 (some v)).length, _) = _
              rw [h2, List.length_set, ga_set (ix_lt hob.1)]
              rfl
            refine va_astq (ci := 5) (r := (RX5, TX5, 15)) hx hb hK hP hD hS j 3 j2 (jW_at hj) rfl (jW_at hj2) rfl h1 hd (fun H1 locs1 hP1 hD1 hS1 => k H1 locs1 ls hl ?_ ?_ hS1 hG)
            · rw [hs, jset hE]; exact hP1
            · rw [hs, jset hE]; exact hD1
        · simp only [hq, hv] at h; cases h
end MK
/-! contracts of constructors -/
def jQA (D : va_G) (cA : Nat → ClassId) (ad : Nat → Nat) (ws : Pw) (nk : List Nat) (sz : Nat) (Post : Pw → Prop) : Array Value → State → Outcome → State → Prop := fun _ st oc t =>
  (∃ (ad' : Nat → Nat) (ws' : Pw), oc = .returned none ∧ (∀ i, i ∉ nk → ad' i = ad i) ∧ ws'.map Prod.fst = ws.map Prod.fst ++ nk ∧ Post ws' ∧ va_P D vwCl (jW cA ad' ws') t.heap ∧ va_D (va_A (jW cA ad ws) sz) (jW cA ad' ws')) ∧ va_F (va_A (jW cA ad ws) sz) st t
/-- from these arguments and this world the constructor returns; new cells stand at the places nk -/
def CtrA (k : Mk) (d : Nat) (av : List Value) (ws : Pw) (nk : List Nat) (mc ms : Nat) (Post : Pw → Prop) : Prop :=
  ∀ (l : Launch) (D : va_G) (cA : Nat → ClassId) (ad : Nat → Nat) (sz : Nat), Met l k.1 (.code k.1 k.2.1 k.2.2.1 k.2.2.2 :: allW) { frames := d, cells := mc, slots := ms, locals := 40 * d } (va_Pc (av.map (jV ad)) (jB D cA ad ws sz)) (jQA D cA ad ws nk sz Post) mc ms (va_A (jW cA ad ws) sz)
def nkP (ad : Nat → Nat) (ws : Pw) (nk : List Nat) (Post : Pw → Prop) : (Nat → Nat) → Option Value → Pw → Prop := fun ad' r ws' => r = none ∧ (∀ i, i ∉ nk → ad' i = ad i) ∧ ws'.map Prod.fst = ws.map Prod.fst ++ nk ∧ Post ws'
theorem CtrA.of {k : Mk} {d : Nat} {av : List Value} {ws : Pw} {nk : List Nat} {mc ms : Nat} {Post : Pw → Prop} (hy : plainName k.1.cls = true) (hlen : (lg_sl av).length ≤ k.2.2.1)
    (body : ∀ (x : Cx) (ad : Nat → Nat), Fx x k.2.1 k.2.2.1 k.1.cls k.1.name k.2.2.2 d → Rx x mc ms → jSx x ad → Rt x mc ms (nkP ad ws nk Post) → J x k.2.2.1 (ad, 0, 0) (0, lv_args 0 av, [], ws)) : CtrA k d av ws nk mc ms Post := by
  intro l D cA ad sz
  refine Met.ofW (cc := k.2.1) (maxL := k.2.2.1) (ret := k.2.2.2) hy rfl ?_
  intro p e s m args below meth c s₁ B hml hv
  obtain ⟨rfl, hsz, hP, hK, hD, hS0⟩ := hv
  subst hsz
  have hts := atoms_spec (ws := .code k.1 k.2.1 k.2.2.1 k.2.2.2 :: allW) B.pre
  have hD' : va_D (va_A (jW cA ad ws) s.heap.size) (jW cA ad ws) := hD.self
  have hbody := body (p, l, e, { frames := d, cells := mc, slots := ms, locals := 40 * d }, s, m, (av.map (jV ad)).toArray, below, meth, c, D, cA, va_A (jW cA ad ws) s.heap.size, MQ below (jQA D cA ad ws nk s.heap.size Post) (av.map (jV ad)).toArray s mc ms (va_A (jW cA ad ws) s.heap.size)) ad
    ⟨B.exec, B.bytes, hml, findClass_of_methodNamed B.named, fun w hw => hts w (List.mem_cons_of_mem _ hw), hK, fun q h => Or.inr h, Nat.le_refl _, Nat.le_refl _, B.returns, B.notSynchronized, (name_of_methodNamed B.named B.method).1⟩
    ⟨Nat.le_refl _, Nat.le_refl _⟩ hS0
    ⟨_, _, rfl, fun _ h => h, fun ad' r ws' H locs t hp hP' hD1 hS1 ht hW => by
      obtain ⟨rfl, hk1, hk2, hpost⟩ := hp
      refine ⟨⟨ad', ws', rfl, hk1, hk2, hpost, by rw [ht]; exact hP', hD1⟩, ?_⟩
      exact ⟨by rw [ht]; exact hS1.1, fun q h1 h2 => by rw [ht]; exact hS1.2.1 q h1 h2⟩⟩
  rw [lg_entry_eq]
  refine hbody s.heap [] _ ?_ hP hD' va_S.rf ⟨Nat.zero_le _, Nat.zero_le _⟩
  have h := lv_entry (av.map (jV ad)) (n := k.2.2.1) (by rw [lg_sl_map]; exact hlen)
  rw [lv_args_map] at h
  exact h
/-- addresses of the new places, told to the caller -/
def adN (σ : Nat → Nat) (nk : List Nat) (ad1 ad : Nat → Nat) (i : Nat) : Nat := match nk.find? (fun n => Nat.beq (σ n) i) with
  | some n => ad1 n
  | none => ad i
theorem adN_old {σ : Nat → Nat} {nk : List Nat} {ad1 ad : Nat → Nat} {i : Nat} (h : i ∉ nk.map σ) : adN σ nk ad1 ad i = ad i := by
  unfold adN
  rw [List.find?_eq_none.mpr (fun n hn hb => h (List.mem_map.mpr ⟨n, hn, Nat.eq_of_beq_eq_true hb⟩))]
theorem adN_new {σ : Nat → Nat} {nk : List Nat} {ad1 ad : Nat → Nat} (hn : (nk.map σ).Nodup) {n : Nat} (h : n ∈ nk) : adN σ nk ad1 ad (σ n) = ad1 n := by
  unfold adN
  induction nk with
  | nil => cases h
  | cons a nk ih =>
    rw [List.map_cons, List.nodup_cons] at hn
    rw [List.find?_cons]
    cases hb : Nat.beq (σ a) (σ n) with
    | true =>
      rcases List.mem_cons.mp h with rfl | h
      · rfl
      · exact absurd (List.mem_map.mpr ⟨n, h, (Nat.eq_of_beq_eq_true hb).symm⟩) hn.1
    | false =>
      rcases List.mem_cons.mp h with rfl | h
      · rw [Nat.beq_refl] at hb; cases hb
      · exact ih hn.2 h
/-- a map of places out of a list; all else goes far away, the constants stay -/
def smA : List (Nat × Nat) → Nat → Nat
  | [], k => bif (Nat.ble 1000 k && Nat.ble k 1016) then k else k + 5000
  | q :: l, k => bif Nat.beq q.1 k then q.2 else smA l k
theorem smA_off {l : List (Nat × Nat)} {nk : List Nat} (h1 : l.all (fun q => (nk.any (Nat.beq q.1)) || nin q.2 (nk.map (smA l))) = true) (h2 : (nk.map (smA l)).all (fun v => Nat.blt v 1000) = true) : ∀ k, k ∉ nk → smA l k ∉ nk.map (smA l) := by
  intro k hk hm
  have hb : smA l k < 1000 := Nat.le_of_ble_eq_true (List.all_eq_true.mp h2 _ hm)
  have key : ∀ l0 : List (Nat × Nat), (∀ q ∈ l0, q ∈ l) → smA l0 k < 1000 → ∃ q ∈ l, q.1 = k ∧ smA l0 k = q.2 := by
    intro l0
    induction l0 with
    | nil =>
      intro _ h
      exfalso
      revert h
      show (bif (Nat.ble 1000 k && Nat.ble k 1016) then k else k + 5000) < 1000 → False
      cases hc : (Nat.ble 1000 k && Nat.ble k 1016) with
      | true =>
        have := Nat.le_of_ble_eq_true (Bool.and_eq_true_iff.mp hc).1
        intro h
        have h : k < 1000 := h
        omega
      | false =>
        intro h
        have h : k + 5000 < 1000 := h
        omega
    | cons q l0 ih =>
      intro hl h
      cases hc : Nat.beq q.1 k with
      | true =>
        exact ⟨q, hl q List.mem_cons_self, Nat.eq_of_beq_eq_true hc, by show (bif Nat.beq q.1 k then q.2 else smA l0 k) = q.2; rw [hc]; rfl⟩
      | false =>
        have e : smA (q :: l0) k = smA l0 k := by show (bif Nat.beq q.1 k then q.2 else smA l0 k) = _; rw [hc]; rfl
        rw [e] at h ⊢
        exact ih (fun z hz => hl z (List.mem_cons_of_mem _ hz)) h
  obtain ⟨q, hq, e1, e2⟩ := key l (fun _ h => h) hb
  have h3 := List.all_eq_true.mp h1 q hq
  rcases Bool.or_eq_true_iff.mp h3 with h | h
  · obtain ⟨n, hn, hb⟩ := List.any_eq_true.mp h
    exact hk (by rw [← e1, Nat.eq_of_beq_eq_true hb]; exact hn)
  · exact nin_of h (by rw [← e2]; exact hm)
def newW (σ : Nat → Nat) (n : Nat) (W ws' : Pw) : Pw := updM σ W (ws'.take n) ++ (ws'.drop n).map (fun q => (σ q.1, renE σ q.2))
theorem call_coreA {p : Program} {l : Launch} {e : Env} {R : Room} {s : State} {m : MethodId} {args : Array Value} {below : List Frame} {meth : Method} {c : Code} {D : va_G} {cA : Nat → ClassId} {A : Nat → Prop} {Q : State → Prop} {nL : Nat} {ad : Nat → Nat} {cells slots mc ms pc : Nat} {lv : List (Nat × Value)} {st rest : List Value} {W ws : Pw} {nk : List Nat} {σ : Nat → Nat} {Post : Pw → Prop} {a' : Array Value}
    (hA : ∀ q : Nat, s.heap.size ≤ q → A q) (hroom : cells + mc ≤ R.cells ∧ slots + ms ≤ R.slots) (hsub : ws.map (fun q => wget W (σ q.1)) = ws.map (fun q => some (renE σ q.2)))
    (hrun : ∀ (H : Heap) (locs : List Loc) (ls : Array Slot), lv_has ls nL (jL ad lv) → va_P D vwCl (jW cA ad W) H → va_D A (jW cA ad W) → va_S A s.heap H locs → (∀ q, va_A (jW cA (fun k => ad (σ k)) ws) H.size q → A q) → va_P D vwCl (jW cA (fun k => ad (σ k)) ws) H → va_D (fun _ => True) (jW cA (fun k => ad (σ k)) ws) →
      va_Run p l e R s m args below meth c H locs cells slots mc ms (F0 m pc ls (st.map (jV ad))) (rest.map (jV ad)) (jQA D cA (fun k => ad (σ k)) ws nk H.size Post a') (va_A (jW cA (fun k => ad (σ k)) ws) H.size))
    (hnd : ((ws.map Prod.fst).map σ).Nodup) (hnk : (nk.map σ).Nodup) (hoff : ∀ k, k ∉ nk → σ k ∉ nk.map σ) (hfr : frS (nk.map σ) lv rest W = true)
    (kk : ∀ (ad' : Nat → Nat) (ws' : Pw), (∀ i, i ∉ nk.map σ → ad' i = ad i) → ws'.map Prod.fst = ws.map Prod.fst ++ nk → Post ws' → J (p, l, e, R, s, m, args, below, meth, c, D, cA, A, Q) nL (ad', cells + mc, slots + ms) (pc + 3, lv, rest, newW σ ws.length W ws')) : J (p, l, e, R, s, m, args, below, meth, c, D, cA, A, Q) nL (ad, cells, slots) (pc, lv, st, W) := by
  intro H locs ls hl hP hD hS hG
  have hf1 := Bool.and_eq_true_iff.mp hfr
  have hf2 := Bool.and_eq_true_iff.mp hf1.2
  have hmem := sub_world hsub
  have hinj : ∀ a ∈ W, ∀ b ∈ W, ad a.1 = ad b.1 → a = b := by
    intro a ha b hb hab
    obtain ⟨i, hi⟩ := List.getElem?_of_mem ha
    obtain ⟨j, hj⟩ := List.getElem?_of_mem hb
    have hij := hD.1 i j _ _ (jW_at (k := a.1) (e := a.2) hi) (jW_at (k := b.1) (e := b.2) hj) hab
    subst hij
    rw [hi] at hj
    exact Option.some.inj hj
  have hin : ∀ q ∈ jW cA (fun k => ad (σ k)) ws, ∃ z ∈ W, q = (ad z.1, jE cA ad z.2) := by
    intro q hq
    obtain ⟨z, hz, rfl⟩ := List.mem_map.mp hq
    exact ⟨_, hmem z hz, by rw [jE_ren]⟩
  have hAA : ∀ q, va_A (jW cA (fun k => ad (σ k)) ws) H.size q → A q := by
    intro q hq
    rcases hq with ⟨k, e, h⟩ | h
    · obtain ⟨z, hz, e1⟩ := hin _ (List.mem_of_getElem? h)
      obtain ⟨i, hi⟩ := List.getElem?_of_mem hz
      have := hD.2 i _ (jW_at (k := z.1) (e := z.2) hi)
      rw [show q = ad z.1 from congrArg Prod.fst e1]
      exact this
    · exact hA q (Nat.le_trans hS.1 h)
  have hPc : va_P D vwCl (jW cA (fun k => ad (σ k)) ws) H := by
    rw [va_P_mem] at hP ⊢
    intro q hq
    obtain ⟨z, hz, rfl⟩ := hin q hq
    exact hP _ (List.mem_map.mpr ⟨z, hz, rfl⟩)
  have hDc : va_D (fun _ => True) (jW cA (fun k => ad (σ k)) ws) := by
    rw [va_D_keys, jW_keys]
    refine ⟨?_, fun _ _ => trivial⟩
    rw [show ((ws.map Prod.fst).map fun k => ad (σ k)) = ((ws.map Prod.fst).map σ).map ad by simp only [List.map_map]; rfl]
    refine List.nodup_iff_pairwise_ne.mpr (List.pairwise_iff_getElem.mpr fun i j hi hj hij e1 => ?_)
    rw [List.length_map] at hi hj
    simp only [List.getElem_map] at e1
    have h1 := (List.pairwise_iff_getElem.mp (List.nodup_iff_pairwise_ne.mp hnd)) i j hi hj hij
    apply h1
    simp only [List.getElem_map]
    rw [List.length_map, List.length_map] at hi hj
    have g1 := hmem (ws[i]) (List.getElem_mem hi)
    have g2 := hmem (ws[j]) (List.getElem_mem hj)
    exact congrArg Prod.fst (hinj _ g1 _ g2 e1)
  intro T hT X
  obtain ⟨v, st₀, t, T', L, h0, X', hL, e1, e2, ⟨⟨ad1, ws', hv, had, hk, hp, hPt, hDt⟩, hz, hkp⟩, st9⟩ := hrun H locs ls hl hP hD hS hAA hPc hDc T hT X
  cases hv
  rw [h0] at hz hkp
  have had' : ∀ i, i ∉ nk.map σ → adN σ nk ad1 ad i = ad i := fun i hi => adN_old hi
  have hfun : ad1 = fun k => adN σ nk ad1 ad (σ k) := by
    funext k
    by_cases hkn : k ∈ nk
    · exact (adN_new hnk hkn).symm
    · rw [had k hkn]
      exact (adN_old (hoff k hkn)).symm
  generalize hadE : adN σ nk ad1 ad = ad' at had' hfun
  clear hadE
  have hwt : (ws'.take ws.length).map Prod.fst = ws.map Prod.fst := by
    rw [List.map_take, hk, List.take_append_of_le_length (by rw [List.length_map]; exact Nat.le_refl _), List.take_of_length_le (by rw [List.length_map]; exact Nat.le_refl _)]
  have hwd : (ws'.drop ws.length).map Prod.fst = nk := by
    rw [List.map_drop, hk, List.drop_append_of_le_length (by rw [List.length_map]; exact Nat.le_refl _), List.drop_of_length_le (by rw [List.length_map]; exact Nat.le_refl _)]
    rfl
  have hWad : jW cA ad' W = jW cA ad W := frW_ad had' hf2.2
  have hWk : ∀ z ∈ W, ad' z.1 = ad z.1 := fun z hz => by
    have := List.all_eq_true.mp hf2.2 z hz
    rw [Bool.and_eq_true] at this
    exact had' _ (nin_of this.1)
  have hWe : ∀ z ∈ W, jE cA ad' z.2 = jE cA ad z.2 := fun z hz => by
    have := List.all_eq_true.mp hf2.2 z hz
    rw [Bool.and_eq_true] at this
    exact frE_ad had' this.2
  have hwn : (W.map Prod.fst).Nodup := by
    have := (va_D_keys.mp hD).1
    rw [jW_keys] at this
    refine List.nodup_iff_pairwise_ne.mpr (List.pairwise_iff_getElem.mpr fun i j hi hj hij e1 => ?_)
    refine (List.pairwise_iff_getElem.mp (List.nodup_iff_pairwise_ne.mp this)) i j (by rw [List.length_map]; exact hi) (by rw [List.length_map]; exact hj) hij ?_
    simp only [List.getElem_map] at e1 ⊢
    rw [e1]
  have hsplit : ∀ z ∈ ws', z ∈ ws'.take ws.length ∨ z ∈ ws'.drop ws.length := fun z hz9 => by
    rw [← List.take_append_drop ws.length ws'] at hz9
    exact List.mem_append.mp hz9
  have hback : ∀ z ∈ ws', va_at D vwCl (ad' (σ z.1), jE cA ad' (renE σ z.2)) T'.heap := fun z hz9 => by
    rw [va_P_mem] at hPt
    have := hPt _ (List.mem_map.mpr ⟨z, hz9, rfl⟩)
    rw [e1]
    rw [jE_ren, ← hfun]
    have e9 : ad' (σ z.1) = ad1 z.1 := by rw [hfun]
    rw [e9]
    exact this
  have hP' : va_P D vwCl (jW cA ad' (newW σ ws.length W ws')) T'.heap := by
    rw [va_P_mem]
    intro q hq
    obtain ⟨z, hz9, rfl⟩ := List.mem_map.mp hq
    rcases List.mem_append.mp hz9 with hz9 | hz9
    · rcases updM_mem hwn hz9 with ⟨z1, hz1, rfl⟩ | ⟨hzW, hne⟩
      · exact hback z1 (List.mem_of_mem_take hz1)
      · rw [va_P_mem] at hP
        have hz2 := hP _ (List.mem_map.mpr ⟨z, hzW, rfl⟩)
        rw [hWk z hzW, hWe z hzW]
        refine hz2.kept ?_
        rw [e1]
        refine hkp (ad z.1) hz2.lt fun hq9 => ?_
        rcases hq9 with ⟨k, e, h⟩ | h
        · have hkz : ad z.1 ∈ (jW cA (fun k => ad (σ k)) ws).map Prod.fst := List.mem_map.mpr ⟨_, List.mem_of_getElem? h, rfl⟩
          rw [jW_keys, ← hwt] at hkz
          obtain ⟨j, hj, ej⟩ := List.mem_map.mp hkz
          have hj2 := hj
          rw [hwt] at hj2
          obtain ⟨z3, hz3, rfl⟩ := List.mem_map.mp hj
          obtain ⟨z4, hz4, e4⟩ := List.mem_map.mp hj2
          have g1 := hinj _ (hmem z4 hz4) _ hzW (by show ad (σ z4.1) = ad z.1; rw [e4]; exact ej)
          exact hne z3 hz3 (by rw [← g1]; show σ z4.1 = σ z3.1; rw [e4])
        · exact absurd hz2.lt (Nat.not_lt.mpr h)
    · obtain ⟨z1, hz1, rfl⟩ := List.mem_map.mp hz9
      exact hback z1 (List.mem_of_mem_drop hz1)
  have hnewlow : ∀ n ∈ nk, H.size ≤ ad1 n := fun n hn => by
    obtain ⟨h1, h2⟩ := va_D_keys.mp hDt
    have hm : ad1 n ∈ (jW cA ad1 ws').map Prod.fst := by
      rw [jW_keys, hk]
      exact List.mem_map.mpr ⟨n, List.mem_append_right _ hn, rfl⟩
    rcases h2 _ hm with ⟨k, e, h⟩ | h
    · exfalso
      have hkz : ad1 n ∈ (jW cA (fun k => ad (σ k)) ws).map Prod.fst := List.mem_map.mpr ⟨_, List.mem_of_getElem? h, rfl⟩
      rw [jW_keys] at hkz
      obtain ⟨a, ha, ea⟩ := List.mem_map.mp hkz
      rw [jW_keys, hk, List.map_append] at h1
      have hdis := (List.nodup_append.mp h1).2.2
      have hak : a ∉ nk := fun hn2 => by
        refine hdis _ (List.mem_map.mpr ⟨a, ha, rfl⟩) _ (List.mem_map.mpr ⟨a, hn2, rfl⟩) rfl
      exact hdis _ (List.mem_map.mpr ⟨a, ha, rfl⟩) _ (List.mem_map.mpr ⟨n, hn, rfl⟩) (by rw [had a hak]; exact ea)
    · exact h
  have hnew1 : ∀ n ∈ nk, ad' (σ n) = ad1 n := fun n hn => by rw [hfun]
  have hkeys : (newW σ ws.length W ws').map Prod.fst = W.map Prod.fst ++ nk.map σ := by
    unfold newW
    rw [List.map_append, updM_keys, List.map_map, ← hwd, List.map_map]
    rfl
  have hD' : va_D A (jW cA ad' (newW σ ws.length W ws')) := by
    rw [va_D_keys, jW_keys, hkeys, List.map_append]
    have hW1 : (W.map Prod.fst).map ad' = (jW cA ad W).map Prod.fst := by rw [← hWad, jW_keys]
    have hN1 : (nk.map σ).map ad' = nk.map ad1 := by
      rw [List.map_map]
      exact List.map_congr_left fun n hn => hnew1 n hn
    rw [hW1, hN1]
    obtain ⟨h1, h2⟩ := va_D_keys.mp hDt
    obtain ⟨h3, h4⟩ := va_D_keys.mp hD
    refine ⟨List.nodup_append.mpr ⟨h3, ?_, ?_⟩, fun k hk9 => ?_⟩
    · rw [jW_keys, hk, List.map_append] at h1
      exact (List.nodup_append.mp h1).2.1
    · intro a ha b hb hab
      obtain ⟨n, hn, rfl⟩ := List.mem_map.mp hb
      obtain ⟨q, hq, rfl⟩ := List.mem_map.mp ha
      have := ((va_P_mem.mp hP) q hq).lt
      have := hnewlow n hn
      omega
    · rcases List.mem_append.mp hk9 with hk9 | hk9
      · exact h4 k hk9
      · obtain ⟨n, hn, rfl⟩ := List.mem_map.mp hk9
        exact hA _ (Nat.le_trans hS.1 (hnewlow n hn))
  have hS' : va_S A s.heap T'.heap (locs ++ L) := ⟨Nat.le_trans hS.1 (by rw [e1]; exact hz), fun q h1 h2 => by rw [e1, hkp q (Nat.lt_of_lt_of_le h1 hS.1) (fun z => h2 (hAA q z))]; exact hS.2.1 q h1 h2, fun q hq => by
    rcases List.mem_append.mp hq with h | h
    · exact hS.2.2 q h
    · exact hAA _ (hL q h)⟩
  have hfin := kk ad' ws' had' hk hp T'.heap (locs ++ L) ls (by rw [frL_ad had' hf1.1]; exact hl) hP' hD' hS' hroom T' rfl X'
  obtain ⟨t2, a1, b1⟩ := hfin
  refine ⟨t2, st9 t2 ?_, b1⟩
  rw [frVs_ad had' hf2.1] at a1
  exact a1
theorem J.callI {x : Cx} {cc : ByteArray} {nL : Nat} {own nm : String} {ret : Option FieldType} {d : Nat} (F : Fx x cc nL own nm ret d) {MC MS : Nat} (hR : Rx x MC MS) {ad : Nat → Nat} {cells slots : Nat} (hJ : jSx x ad) {pc idx n : Nat} {y : MethodName} {b9 : ByteArray} {m9 : Nat} (hL : Lk own idx (y, b9, m9, none) n) (hin9 : Cond.instanceMethod y ∈ allW) (hnm9 : y.name = "<init>") (hd : decode cc pc = .ok (.invokespecial idx, 3)) {d' k0 mc ms : Nat} {av : List Value} {ws : Pw} {nk : List Nat} {Post : Pw → Prop} (hC : CtrA (y, b9, m9, none) d' (.ref k0 :: av) ws nk mc ms Post) (sl : List (Nat × Nat)) (hdd : d' + 1 ≤ d) {lv : List (Nat × Value)} {st : List Value} {W : Pw} (rest : List Value) (hst : st = (av.map (ren (smA sl))).reverse ++ .ref (smA sl k0) :: rest) (hn : av.length = n) (hcs : Nat.ble (csum rest) 8 = true) (hcl : Nat.ble (cells + mc) MC = true) (hsl : Nat.ble (slots + ms) MS = true)
    (hσ : ∀ i, i < 17 → smA sl (1000 + i) = 1000 + i) (hsub : ws.map (fun q => wget W (smA sl q.1)) = ws.map (fun q => some (renE (smA sl) q.2))) (hnd : ((ws.map Prod.fst).map (smA sl)).Nodup) (nk' : List Nat) (hnk' : nk.map (smA sl) = nk') (hnk : nk'.Nodup) (ho1 : sl.all (fun q => (nk.any (Nat.beq q.1)) || nin q.2 nk') = true) (ho2 : nk'.all (fun v => Nat.blt v 1000) = true) (hfr : frS nk' lv rest W = true)
    (kk : ∀ (ad' : Nat → Nat) (ws' : Pw), (∀ i, i ∉ nk' → ad' i = ad i) → ws'.map Prod.fst = ws.map Prod.fst ++ nk → Post ws' → J x nL (ad', cells + mc, slots + ms) (pc + 3, lv, rest, newW (smA sl) ws.length W ws')) : J x nL (ad, cells, slots) (pc, lv, st, W) := by
  obtain ⟨p, l, e, R, s, m, args, below, meth, c, D, cA, A, Q⟩ := x
  obtain ⟨hx, hb, hml, hown, hts, hK, hA, hfr9, hlo, hrt, hlk, hnm⟩ := F
  obtain ⟨l1, l2, l3, l4, l5, l6, l7⟩ := hL
  subst hst
  subst hnk'
  have hroom : cells + mc ≤ R.cells ∧ slots + ms ≤ R.slots := ⟨Nat.le_trans (Nat.le_of_ble_eq_true hcl) hR.1, Nat.le_trans (Nat.le_of_ble_eq_true hsl) hR.2⟩
  refine call_coreA (σ := smA sl) (rest := rest) (a' := (Value.ref (ad (smA sl k0)) :: av.map (jV fun k => ad (smA sl k))).toArray) hA hroom hsub (fun H locs ls hl hP hD hS hAA hPc hDc => ?_) hnd hnk (smA_off ho1 ho2) hfr kk
  refine va_runI (b := ad (smA sl k0)) (As := av.map (jV fun k => ad (smA sl k))) (n := n) (Ts := allW) (bytes := b9) (maxL := m9) (nL := nL) ⟨hx, hb, hml, hown, hts⟩ (hC l D cA (fun k => ad (smA sl k)) H.size) ⟨callB_of n hts (allW_goodIn (fun _ h => h) l3) rfl rfl rfl (hts _ l2) (hts _ l1) ⟨l4, l5, l6⟩ ⟨by show d' + 1 ≤ R.frames; omega, by show 8 + (m9 + 11) + 40 * d' ≤ R.locals; have l7 : m9 ≤ 21 := l7; omega⟩, hnm9, hts _ hin9⟩ ⟨jB_blind, fun U hU hW => ?_⟩ rfl ?_ hl.1 ?_ ?_ hd hroom
  · exact ⟨rfl, by rw [hU], by rw [hU]; exact hPc, va_K.moved hW.alike hK, hDc, jS_call hσ hJ hS hAA hU hW⟩
  · rw [List.length_map]; exact hn
  · show ((av.map (ren (smA sl))).reverse ++ .ref (smA sl k0) :: rest).map (jV ad) = (av.map (jV fun k => ad (smA sl k))).reverse ++ .ref (ad (smA sl k0)) :: rest.map (jV ad)
    rw [List.map_append, List.map_reverse, List.map_map]
    congr 2
    exact List.map_congr_left fun v _ => jV_ren ad (smA sl) v
  · show 2 * 0 + ((rest.map (jV ad)).map fun v => v.category).sum ≤ 8
    rw [csum_map]
    have := Nat.le_of_ble_eq_true hcs
    omega
theorem J.callIN {x : Cx} {cc : ByteArray} {nL : Nat} {own nm : String} {ret : Option FieldType} {d : Nat} (F : Fx x cc nL own nm ret d) {MC MS : Nat} (hR : Rx x MC MS) {ad : Nat → Nat} {cells slots : Nat} (hJ : jSx x ad) {pc idx n : Nat} {y : MethodName} {b9 : ByteArray} {m9 : Nat} (hNn : (own, idx, y, RX6) ∈ jN) (hL : Lk9 (y, b9, m9, none) n) (hin9 : Cond.instanceMethod y ∈ allW) (hnm9 : y.name = "<init>") (hd : decode cc pc = .ok (.invokespecial idx, 3)) {d' k0 mc ms : Nat} {av : List Value} {ws : Pw} {nk : List Nat} {Post : Pw → Prop} (hC : CtrA (y, b9, m9, none) d' (.ref k0 :: av) ws nk mc ms Post) (sl : List (Nat × Nat)) (hdd : d' + 1 ≤ d) {lv : List (Nat × Value)} {st : List Value} {W : Pw} (rest : List Value) (hst : st = (av.map (ren (smA sl))).reverse ++ .ref (smA sl k0) :: rest) (hn : av.length = n) (hcs : Nat.ble (csum rest) 8 = true) (hcl : Nat.ble (cells + mc) MC = true) (hsl : Nat.ble (slots + ms) MS = true)
    (hσ : ∀ i, i < 17 → smA sl (1000 + i) = 1000 + i) (hsub : ws.map (fun q => wget W (smA sl q.1)) = ws.map (fun q => some (renE (smA sl) q.2))) (hnd : ((ws.map Prod.fst).map (smA sl)).Nodup) (nk' : List Nat) (hnk' : nk.map (smA sl) = nk') (hnk : nk'.Nodup) (ho1 : sl.all (fun q => (nk.any (Nat.beq q.1)) || nin q.2 nk') = true) (ho2 : nk'.all (fun v => Nat.blt v 1000) = true) (hfr : frS nk' lv rest W = true)
    (kk : ∀ (ad' : Nat → Nat) (ws' : Pw), (∀ i, i ∉ nk' → ad' i = ad i) → ws'.map Prod.fst = ws.map Prod.fst ++ nk → Post ws' → J x nL (ad', cells + mc, slots + ms) (pc + 3, lv, rest, newW (smA sl) ws.length W ws')) : J x nL (ad, cells, slots) (pc, lv, st, W) := by
  obtain ⟨p, l, e, R, s, m, args, below, meth, c, D, cA, A, Q⟩ := x
  obtain ⟨hx, hb, hml, hown, hts, hK, hA, hfr9, hlo, hrt, hlk, hnm⟩ := F
  obtain ⟨l2, l3, l4, l5, l6, l7⟩ := hL
  subst hst
  subst hnk'
  have hroom : cells + mc ≤ R.cells ∧ slots + ms ≤ R.slots := ⟨Nat.le_trans (Nat.le_of_ble_eq_true hcl) hR.1, Nat.le_trans (Nat.le_of_ble_eq_true hsl) hR.2⟩
  refine call_coreA (σ := smA sl) (rest := rest) (a' := (Value.ref (ad (smA sl k0)) :: av.map (jV fun k => ad (smA sl k))).toArray) hA hroom hsub (fun H locs ls hl hP hD hS hAA hPc hDc => ?_) hnd hnk (smA_off ho1 ho2) hfr kk
  refine va_runIN (host := RX6) (b := ad (smA sl k0)) (As := av.map (jV fun k => ad (smA sl k))) (n := n) (Ts := allW) (bytes := b9) (maxL := m9) (nL := nL) ⟨hx, hb, hml, hown, hts⟩ (hC l D cA (fun k => ad (smA sl k)) H.size) ⟨va_cnB n hts (allW_goodIn (fun _ h => h) l3) rfl rfl rfl (hJ.2.2.1 _ hNn) (hts _ l2) ⟨l4, l5, l6⟩ ⟨by show d' + 1 ≤ R.frames; omega, by show 8 + (m9 + 11) + 40 * d' ≤ R.locals; have l7 : m9 ≤ 21 := l7; omega⟩, hnm9, hts _ hin9⟩ ⟨jB_blind, fun U hU hW => ?_⟩ rfl ?_ hl.1 ?_ ?_ hd hroom
  · exact ⟨rfl, by rw [hU], by rw [hU]; exact hPc, va_K.moved hW.alike hK, hDc, jS_call hσ hJ hS hAA hU hW⟩
  · rw [List.length_map]; exact hn
  · show ((av.map (ren (smA sl))).reverse ++ .ref (smA sl k0) :: rest).map (jV ad) = (av.map (jV fun k => ad (smA sl k))).reverse ++ .ref (ad (smA sl k0)) :: rest.map (jV ad)
    rw [List.map_append, List.map_reverse, List.map_map]
    congr 2
    exact List.map_congr_left fun v _ => jV_ren ad (smA sl) v
  · show 2 * 0 + ((rest.map (jV ad)).map fun v => v.category).sum ≤ 8
    rw [csum_map]
    have := Nat.le_of_ble_eq_true hcs
    omega
