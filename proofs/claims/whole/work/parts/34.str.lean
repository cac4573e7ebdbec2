section STR
variable {x : Cx} {cc : ByteArray} {nL : Nat} {own nm : String} {ret : Option FieldType} {d pc : Nat} {g : (Nat → Nat) × Nat × Nat} {lv : List (Nat × Value)} {st : List Value} {ws : Pw}
theorem J.ldcS (F : Fx x cc nL own nm ret d) (hJ : jSx x g.1) {idx : Nat} (i : Nat) (hi : i < 6) (hown : own = RX4) (hx : (jSI.getD i (0, "")).1 = idx) (hd : decode cc pc = .ok (.ldc idx, 2)) (k : J x nL g (pc + 2, lv, .ref (1000 + i) :: st, ws)) : J x nL g (pc, lv, st, ws) := by
  obtain ⟨p, l, e, R, s, m, args, below, meth, c, D, cA, A, Q⟩ := x
  obtain ⟨hx', hb, hml, ho, hts, hK, hA, hfr, hlo, hrt, hlk, hnm⟩ := F
  subst hown
  subst hx
  intro H locs ls hl hP hD hS hG
  exact va_ldcS hx' hb ho (hJ.2.1 i hi) hd (k H locs ls hl hP hD hS hG)
theorem J.getfS (F : Fx x cc nL own nm ret d) (hJ : jSx x g.1) {idx : Nat} (i : Nat) (hi : i < 6) (hlk : Cond.fieldLink own idx "java/lang/String" "value" "[B" ∈ allW) (hd : decode cc pc = .ok (.getfield idx, 3)) (k : J x nL g (pc + 3, lv, .ref (1010 + i) :: st, ws)) : J x nL g (pc, lv, .ref (1000 + i) :: st, ws) := by
  obtain ⟨p, l, e, R, s, m, args, below, meth, c, D, cA, A, Q⟩ := x
  obtain ⟨hx', hb, hml, ho, hts, hK, hA, hfr, hlo, hrt, hlk', hnm⟩ := F
  intro H locs ls hl hP hD hS hG
  exact vk_getf hx' hb (hJ.1.1 i hi).2.2.1 hS ho (hts _ hlk) (fun _ h => h) hd (k H locs ls hl hP hD hS hG)
theorem J.getfC (F : Fx x cc nL own nm ret d) (hJ : jSx x g.1) {idx : Nat} (i : Nat) (hi : i < 6) (hlk : Cond.fieldLink own idx "java/lang/String" "coder" "B" ∈ allW) (hd : decode cc pc = .ok (.getfield idx, 3)) (k : J x nL g (pc + 3, lv, .int 0 :: st, ws)) : J x nL g (pc, lv, .ref (1000 + i) :: st, ws) := by
  obtain ⟨p, l, e, R, s, m, args, below, meth, c, D, cA, A, Q⟩ := x
  obtain ⟨hx', hb, hml, ho, hts, hK, hA, hfr, hlo, hrt, hlk', hnm⟩ := F
  intro H locs ls hl hP hD hS hG
  exact vk_getf hx' hb (hJ.1.1 i hi).2.1 hS ho (hts _ hlk) (fun _ h => h) hd (k H locs ls hl hP hD hS hG)
theorem J.getsZ (F : Fx x cc nL own nm ret d) (hJ : jSx x g.1) {idx : Nat} (hlk : Cond.fieldLink own idx "java/lang/String" "COMPACT_STRINGS" "Z" ∈ allW) (hd : decode cc pc = .ok (.getstatic idx, 3)) (k : J x nL g (pc + 3, lv, .int 1 :: st, ws)) : J x nL g (pc, lv, st, ws) := by
  obtain ⟨p, l, e, R, s, m, args, below, meth, c, D, cA, A, Q⟩ := x
  obtain ⟨hx', hb, hml, ho, hts, hK, hA, hfr, hlo, hrt, hlk', hnm⟩ := F
  intro H locs ls hl hP hD hS hG
  exact va_gets hx' hb hJ.2.2.2.2.1 hS ho (hts _ hlk) (fun _ h => h) hd (k H locs ls hl hP hD hS hG)
theorem J.getsF (F : Fx x cc nL own nm ret d) (hJ : jSx x g.1) {idx : Nat} (hlk : Cond.fieldLink own idx "jdk/internal/util/Preconditions" "SIOOBE_FORMATTER" "Ljava/util/function/BiFunction;" ∈ allW) (hd : decode cc pc = .ok (.getstatic idx, 3)) (kk : ∀ v : Value, v = .null ∨ v = .ref 1016 → J x nL g (pc + 3, lv, v :: st, ws)) : J x nL g (pc, lv, st, ws) := by
  obtain ⟨p, l, e, R, s, m, args, below, meth, c, D, cA, A, Q⟩ := x
  obtain ⟨hx', hb, hml, ho, hts, hK, hA, hfr, hlo, hrt, hlk', hnm⟩ := F
  intro H locs ls hl hP hD hS hG
  rcases hJ.2.2.2.2.2 with hZ | hZ
  · exact va_gets hx' hb hZ hS ho (hts _ hlk) (fun _ h => h) hd (kk .null (Or.inl rfl) H locs ls hl hP hD hS hG)
  · exact va_gets hx' hb hZ hS ho (hts _ hlk) (fun _ h => h) hd (kk (.ref 1016) (Or.inr rfl) H locs ls hl hP hD hS hG)
theorem J.alenS (F : Fx x cc nL own nm ret d) (hJ : jSx x g.1) (i : Nat) (hi : i < 6) (hd : decode cc pc = .ok (.arraylength, 1)) (k : J x nL g (pc + 1, lv, .int (nI (jSL.getD i 0)) :: st, ws)) : J x nL g (pc, lv, .ref (1010 + i) :: st, ws) := by
  obtain ⟨p, l, e, R, s, m, args, below, meth, c, D, cA, A, Q⟩ := x
  obtain ⟨hx', hb, hml, ho, hts, hK, hA, hfr, hlo, hrt, hlk', hnm⟩ := F
  intro H locs ls hl hP hD hS hG
  exact va_tlen hx' hb (hJ.1.1 i hi).2.2.2 hS rfl hd (k H locs ls hl hP hD hS hG)
theorem J.baldS (F : Fx x cc nL own nm ret d) (hJ : jSx x g.1) (i : Nat) (hi : i < 6) (q : Nat) (hq : q < jSL.getD i 0) (hq9 : jSL.getD i 0 < 2 ^ 31) (hd : decode cc pc = .ok (.baload, 1)) (k : J x nL g (pc + 1, lv, .int ((jSB.getD i []).getD q 0) :: st, ws)) : J x nL g (pc, lv, .int (nI q) :: .ref (1010 + i) :: st, ws) := by
  obtain ⟨p, l, e, R, s, m, args, below, meth, c, D, cA, A, Q⟩ := x
  obtain ⟨hx', hb, hml, ho, hts, hK, hA, hfr, hlo, hrt, hlk', hnm⟩ := F
  intro H locs ls hl hP hD hS hG
  refine va_tb hx' hb (hJ.1.1 i hi).2.2.2 hS (i := nI q) (vp_in_nI hq hq9) (v := .int ((jSB.getD i []).getD q 0)) ?_ hd (k H locs ls hl hP hD hS hG)
  show Value.int ((jSB.getD i []).getD (nI q).toNatClampNeg 0) = _
  rw [nI_clamp (by omega)]
theorem J.i2c (F : Fx x cc nL own nm ret d) {y : Int32} (hd : decode cc pc = .ok (.i2c, 1)) (k : J x nL g (pc + 1, lv, .int (y.toUInt32 % 65536).toInt32 :: st, ws)) : J x nL g (pc, lv, .int y :: st, ws) := by
  obtain ⟨p, l, e, R, s, m, args, below, meth, c, D, cA, A, Q⟩ := x
  obtain ⟨hx', hb, hml, ho, hts, hK, hA, hfr, hlo, hrt, hlk', hnm⟩ := F
  intro H locs ls hl hP hD hS hG
  exact lv_i2c hx' hb hd rfl (k H locs ls hl hP hD hS hG)
end STR
theorem J.callVS {x : Cx} {cc : ByteArray} {nL : Nat} {own nm : String} {ret : Option FieldType} {d : Nat} (F : Fx x cc nL own nm ret d) {ad : Nat → Nat} {cells slots : Nat} (hJ : jSx x ad) {pc idx n : Nat} {k : Mk} (hL : Lk own idx k n) (hin9 : Cond.instanceMethod k.1 ∈ allW) (hsel9 : Cond.selects k.1.cls k.1 k.1 ∈ allW) (hd : decode cc pc = .ok (.invokevirtual idx, 3)) {d' i : Nat} {av : List Value} {Post : Option Value → Pw → Prop} (hC : Ctr k d' (.ref (1000 + i) :: av) [] Post) (hi : i < 6) (hcs9 : k.1.cls = "java/lang/String") (hdd : d' + 1 ≤ d) {lv : List (Nat × Value)} {st : List Value} {W : Pw} (rest : List Value) (hst : st = av.reverse ++ .ref (1000 + i) :: rest) (hn : av.length = n) (hcs : Nat.ble (csum rest) 8 = true)
    (kk : ∀ (r : Option Value) (ws' : Pw), Post r ws' → J x nL (ad, cells, slots) (pc + 3, lv, r.toList ++ rest, W)) : J x nL (ad, cells, slots) (pc, lv, st, W) := by
  have hren : ∀ v : Value, ren (fun k => k) v = v := fun v => by cases v <;> rfl
  have hav : av.map (ren fun k => k) = av := by
    rw [List.map_congr_left (g := id) (fun v _ => hren v)]
    exact List.map_id av
  have kk' : ∀ (r : Option Value) (ws' : Pw), ws'.map Prod.fst = ([] : Pw).map Prod.fst → Post r ws' → J x nL (ad, cells, slots) (pc + 3, lv, (r.map (ren fun k => k)).toList ++ rest, updM (fun k => k) W ws') := by
    intro r ws' hk hp
    have e1 : ws' = [] := List.map_eq_nil_iff.mp hk
    subst e1
    have e2 : r.map (ren fun k => k) = r := by
      cases r with
      | none => rfl
      | some v => exact congrArg some (hren v)
    rw [e2, show updM (fun k => k) W [] = W from rfl]
    exact kk r [] hp
  obtain ⟨p, l, e, R, s, m, args, below, meth, c, D, cA, A, Q⟩ := x
  obtain ⟨hx, hb, hml, hown, hts, hK, hA, hfr, hlo, hrt, hlk, hnm⟩ := F
  obtain ⟨l1, l2, l3, l4, l5, l6, l7⟩ := hL
  subst hst
  refine call_core (σ := fun k => k) (ws := []) (rest := rest) (a' := (Value.ref (ad (1000 + i)) :: av.map (jV ad)).toArray) hA rfl (fun H locs ls hl hP hD hS hG hAA hPc hDc => ?_) List.nodup_nil kk'
  refine va_runV (C := k.1.cls) (b := ad (1000 + i)) (As := av.map (jV ad)) (n := n) (Ts := allW) (bytes := k.2.1) (maxL := k.2.2.1) (nL := nL) ⟨hx, hb, hml, hown, hts⟩ (hC l D cA ad H.size) ⟨callB_of n hts (allW_goodIn (fun _ h => h) l3) rfl rfl rfl (hts _ l2) (hts _ l1) ⟨l4, l5, l6⟩ ⟨by show d' + 1 ≤ R.frames; omega, by show 8 + (k.2.2.1 + 11) + 40 * d' ≤ R.locals; omega⟩, hts _ hin9, hts _ hsel9⟩ ⟨jB_blind, ?_, fun U hU hW => ?_⟩ rfl ?_ hl.1 ?_ ?_ hd ⟨hG.1, hG.2⟩
  · rw [hcs9]
    exact vk_recv (adK := fun i => ad (1000 + i)) (i := i) hJ.1 hi hS
  · exact ⟨rfl, by rw [hU], by rw [hU]; exact hPc, va_K.moved hW.alike hK, hDc, jS_call (σ := fun k => k) (fun _ _ => rfl) hJ hS hAA hU hW⟩
  · rw [List.length_map]; exact hn
  · show (av.reverse ++ .ref (1000 + i) :: rest).map (jV ad) = (av.map (jV ad)).reverse ++ .ref (ad (1000 + i)) :: rest.map (jV ad)
    rw [List.map_append, List.map_reverse]
    rfl
  · show 2 * 0 + ((rest.map (jV ad)).map fun v => v.category).sum ≤ 8
    rw [csum_map]
    have := Nat.le_of_ble_eq_true hcs
    omega
def chV (i k : Nat) : Int32 := ((((jSB.getD i []).getD k 0) &&& 255).toUInt32 % 65536).toInt32
abbrev mk_J0_length_8abf5 : Mk := (yJ0_length_8abf5, cJ0_length_8abf5, 1, (some .int))
def tb_J0_length_8abf5 : List (Nat × Op) := [(0, o_aload 0 1), (5, o_aload 0 1), (9, o_ishr)]
set_option maxRecDepth 20000 in
set_option maxHeartbeats 4000000 in
theorem sn_J0_length_8abf5 {x : Cx} {d : Nat} (F : Fx x cJ0_length_8abf5 1 RJ0 yJ0_length_8abf5.name (some .int) d) : ∀ q ∈ tb_J0_length_8abf5, Snd x 1 q :=
  List.forall_mem_cons.mpr ⟨s_aload_n F (a := 0) rfl (by decide +kernel),
    List.forall_mem_cons.mpr ⟨s_aload_n F (a := 0) rfl (by decide +kernel),
    List.forall_mem_cons.mpr ⟨s_ishr F (by decide +kernel),
    (fun _ h => absurd h List.not_mem_nil)⟩⟩⟩
theorem im_J0_length_8abf5 : Cond.instanceMethod yJ0_length_8abf5 ∈ allW := (aw2 99 (by decide +kernel) rfl)
theorem se_J0_length_8abf5 : Cond.selects yJ0_length_8abf5.cls yJ0_length_8abf5 yJ0_length_8abf5 ∈ allW := (aw2 100 (by decide +kernel) rfl)
theorem l9_J0_length_8abf5 : Lk9 mk_J0_length_8abf5 0 := ⟨(aw1 9 (by decide +kernel) rfl), (aw2 101 (by decide +kernel) rfl), by decide, by decide, by decide +kernel, by decide⟩
abbrev mk_J0_charAt_5068e : Mk := (yJ0_charAt_5068e, cJ0_charAt_5068e, 2, (some .char))
def tb_J0_charAt_5068e : List (Nat × Op) := [(0, o_aload 0 1), (4, o_if_eq 16), (7, o_aload 0 1), (11, o_iload 1 1), (16, o_aload 0 1), (20, o_iload 1 1)]
set_option maxRecDepth 20000 in
set_option maxHeartbeats 4000000 in
theorem sn_J0_charAt_5068e {x : Cx} {d : Nat} (F : Fx x cJ0_charAt_5068e 2 RJ0 yJ0_charAt_5068e.name (some .char) d) : ∀ q ∈ tb_J0_charAt_5068e, Snd x 2 q :=
  List.forall_mem_cons.mpr ⟨s_aload_n F (a := 0) rfl (by decide +kernel),
    List.forall_mem_cons.mpr ⟨s_if_eq F (off := 12) (by decide) (by decide +kernel),
    List.forall_mem_cons.mpr ⟨s_aload_n F (a := 0) rfl (by decide +kernel),
    List.forall_mem_cons.mpr ⟨s_iload_n F (a := 1) rfl (by decide +kernel),
    List.forall_mem_cons.mpr ⟨s_aload_n F (a := 0) rfl (by decide +kernel),
    List.forall_mem_cons.mpr ⟨s_iload_n F (a := 1) rfl (by decide +kernel),
    (fun _ h => absurd h List.not_mem_nil)⟩⟩⟩⟩⟩⟩
theorem im_J0_charAt_5068e : Cond.instanceMethod yJ0_charAt_5068e ∈ allW := (aw2 109 (by decide +kernel) rfl)
theorem se_J0_charAt_5068e : Cond.selects yJ0_charAt_5068e.cls yJ0_charAt_5068e yJ0_charAt_5068e ∈ allW := (aw2 110 (by decide +kernel) rfl)
theorem l9_J0_charAt_5068e : Lk9 mk_J0_charAt_5068e 1 := ⟨(aw1 9 (by decide +kernel) rfl), (aw2 111 (by decide +kernel) rfl), by decide, by decide, by decide +kernel, by decide⟩
abbrev mk_J0_coder_7d493 : Mk := (yJ0_coder_7d493, cJ0_coder_7d493, 1, (some .byte))
def tb_J0_coder_7d493 : List (Nat × Op) := [(3, o_if_eq 13), (6, o_aload 0 1), (10, o_goto 14), (13, o_push (.int 1) 1)]
set_option maxRecDepth 20000 in
set_option maxHeartbeats 4000000 in
theorem sn_J0_coder_7d493 {x : Cx} {d : Nat} (F : Fx x cJ0_coder_7d493 1 RJ0 yJ0_coder_7d493.name (some .byte) d) : ∀ q ∈ tb_J0_coder_7d493, Snd x 1 q :=
  List.forall_mem_cons.mpr ⟨s_if_eq F (off := 10) (by decide) (by decide +kernel),
    List.forall_mem_cons.mpr ⟨s_aload_n F (a := 0) rfl (by decide +kernel),
    List.forall_mem_cons.mpr ⟨s_goto F (off := 4) (by decide) (by decide +kernel),
    List.forall_mem_cons.mpr ⟨s_iconst F (n := 1) (by decide +kernel) (by decide +kernel),
    (fun _ h => absurd h List.not_mem_nil)⟩⟩⟩⟩
theorem im_J0_coder_7d493 : Cond.instanceMethod yJ0_coder_7d493 ∈ allW := (aw2 103 (by decide +kernel) rfl)
theorem se_J0_coder_7d493 : Cond.selects yJ0_coder_7d493.cls yJ0_coder_7d493 yJ0_coder_7d493 ∈ allW := (aw2 104 (by decide +kernel) rfl)
theorem l9_J0_coder_7d493 : Lk9 mk_J0_coder_7d493 0 := ⟨(aw1 9 (by decide +kernel) rfl), (aw2 105 (by decide +kernel) rfl), by decide, by decide, by decide +kernel, by decide⟩
abbrev mk_J0_isLatin1_aae02 : Mk := (yJ0_isLatin1_aae02, cJ0_isLatin1_aae02, 1, (some .boolean))
def tb_J0_isLatin1_aae02 : List (Nat × Op) := [(3, o_if_eq 17), (6, o_aload 0 1), (10, o_if_ne 17), (13, o_push (.int 1) 1), (14, o_goto 18), (17, o_push (.int 0) 1)]
set_option maxRecDepth 20000 in
set_option maxHeartbeats 4000000 in
theorem sn_J0_isLatin1_aae02 {x : Cx} {d : Nat} (F : Fx x cJ0_isLatin1_aae02 1 RJ0 yJ0_isLatin1_aae02.name (some .boolean) d) : ∀ q ∈ tb_J0_isLatin1_aae02, Snd x 1 q :=
  List.forall_mem_cons.mpr ⟨s_if_eq F (off := 14) (by decide) (by decide +kernel),
    List.forall_mem_cons.mpr ⟨s_aload_n F (a := 0) rfl (by decide +kernel),
    List.forall_mem_cons.mpr ⟨s_if_ne F (off := 7) (by decide) (by decide +kernel),
    List.forall_mem_cons.mpr ⟨s_iconst F (n := 1) (by decide +kernel) (by decide +kernel),
    List.forall_mem_cons.mpr ⟨s_goto F (off := 4) (by decide) (by decide +kernel),
    List.forall_mem_cons.mpr ⟨s_iconst F (n := 0) (by decide +kernel) (by decide +kernel),
    (fun _ h => absurd h List.not_mem_nil)⟩⟩⟩⟩⟩⟩
theorem im_J0_isLatin1_aae02 : Cond.instanceMethod yJ0_isLatin1_aae02 ∈ allW := (aw2 113 (by decide +kernel) rfl)
theorem se_J0_isLatin1_aae02 : Cond.selects yJ0_isLatin1_aae02.cls yJ0_isLatin1_aae02 yJ0_isLatin1_aae02 ∈ allW := (aw2 114 (by decide +kernel) rfl)
theorem l9_J0_isLatin1_aae02 : Lk9 mk_J0_isLatin1_aae02 0 := ⟨(aw1 9 (by decide +kernel) rfl), (aw2 115 (by decide +kernel) rfl), by decide, by decide, by decide +kernel, by decide⟩
abbrev mk_J0_checkIndex_df160 : Mk := (yJ0_checkIndex_df160, cJ0_checkIndex_df160, 2, none)
def tb_J0_checkIndex_df160 : List (Nat × Op) := [(0, o_iload 0 1), (1, o_iload 1 1), (8, o_pop)]
set_option maxRecDepth 20000 in
set_option maxHeartbeats 4000000 in
theorem sn_J0_checkIndex_df160 {x : Cx} {d : Nat} (F : Fx x cJ0_checkIndex_df160 2 RJ0 yJ0_checkIndex_df160.name none d) : ∀ q ∈ tb_J0_checkIndex_df160, Snd x 2 q :=
  List.forall_mem_cons.mpr ⟨s_iload_n F (a := 0) rfl (by decide +kernel),
    List.forall_mem_cons.mpr ⟨s_iload_n F (a := 1) rfl (by decide +kernel),
    List.forall_mem_cons.mpr ⟨s_pop F (by decide +kernel),
    (fun _ h => absurd h List.not_mem_nil)⟩⟩⟩
theorem st_J0_checkIndex_df160 : Cond.static yJ0_checkIndex_df160 ∈ allW := (aw2 120 (by decide +kernel) rfl)
theorem l9_J0_checkIndex_df160 : Lk9 mk_J0_checkIndex_df160 2 := ⟨(aw1 9 (by decide +kernel) rfl), (aw2 121 (by decide +kernel) rfl), by decide, by decide, by decide +kernel, by decide⟩
abbrev mk_J1_charAt_3b067 : Mk := (yJ1_charAt_3b067, cJ1_charAt_3b067, 2, (some .char))
def tb_J1_charAt_3b067 : List (Nat × Op) := [(0, o_iload 1 1), (1, o_aload 0 1), (6, o_aload 0 1), (7, o_iload 1 1), (8, o_bald), (9, o_push (.int 255) 3), (12, o_iand)]
set_option maxRecDepth 20000 in
set_option maxHeartbeats 4000000 in
theorem sn_J1_charAt_3b067 {x : Cx} {d : Nat} (F : Fx x cJ1_charAt_3b067 2 RJ1 yJ1_charAt_3b067.name (some .char) d) : ∀ q ∈ tb_J1_charAt_3b067, Snd x 2 q :=
  List.forall_mem_cons.mpr ⟨s_iload_n F (a := 1) rfl (by decide +kernel),
    List.forall_mem_cons.mpr ⟨s_aload_n F (a := 0) rfl (by decide +kernel),
    List.forall_mem_cons.mpr ⟨s_aload_n F (a := 0) rfl (by decide +kernel),
    List.forall_mem_cons.mpr ⟨s_iload_n F (a := 1) rfl (by decide +kernel),
    List.forall_mem_cons.mpr ⟨s_bald F (by decide +kernel),
    List.forall_mem_cons.mpr ⟨s_sipush F (n := 255) (by decide +kernel) (by decide +kernel),
    List.forall_mem_cons.mpr ⟨s_iand F (by decide +kernel),
    (fun _ h => absurd h List.not_mem_nil)⟩⟩⟩⟩⟩⟩⟩
theorem st_J1_charAt_3b067 : Cond.static yJ1_charAt_3b067 ∈ allW := (aw2 117 (by decide +kernel) rfl)
theorem l9_J1_charAt_3b067 : Lk9 mk_J1_charAt_3b067 2 := ⟨(aw1 10 (by decide +kernel) rfl), (aw2 118 (by decide +kernel) rfl), by decide, by decide, by decide +kernel, by decide⟩
abbrev mk_J3_checkIndex_8e157 : Mk := (yJ3_checkIndex_8e157, cJ3_checkIndex_8e157, 3, (some .int))
def tb_J3_checkIndex_8e157 : List (Nat × Op) := [(0, o_iload 0 1), (1, o_if_lt 9), (4, o_iload 0 1), (5, o_iload 1 1), (6, o_icmp_lt 16), (9, o_aload 2 1), (10, o_iload 0 1), (11, o_iload 1 1), (16, o_iload 0 1)]
set_option maxRecDepth 20000 in
set_option maxHeartbeats 4000000 in
theorem sn_J3_checkIndex_8e157 {x : Cx} {d : Nat} (F : Fx x cJ3_checkIndex_8e157 3 RJ3 yJ3_checkIndex_8e157.name (some .int) d) : ∀ q ∈ tb_J3_checkIndex_8e157, Snd x 3 q :=
  List.forall_mem_cons.mpr ⟨s_iload_n F (a := 0) rfl (by decide +kernel),
    List.forall_mem_cons.mpr ⟨s_if_lt F (off := 8) (by decide) (by decide +kernel),
    List.forall_mem_cons.mpr ⟨s_iload_n F (a := 0) rfl (by decide +kernel),
    List.forall_mem_cons.mpr ⟨s_iload_n F (a := 1) rfl (by decide +kernel),
    List.forall_mem_cons.mpr ⟨s_icmp_lt F (off := 10) (by decide) (by decide +kernel),
    List.forall_mem_cons.mpr ⟨s_aload_n F (a := 2) rfl (by decide +kernel),
    List.forall_mem_cons.mpr ⟨s_iload_n F (a := 0) rfl (by decide +kernel),
    List.forall_mem_cons.mpr ⟨s_iload_n F (a := 1) rfl (by decide +kernel),
    List.forall_mem_cons.mpr ⟨s_iload_n F (a := 0) rfl (by decide +kernel),
    (fun _ h => absurd h List.not_mem_nil)⟩⟩⟩⟩⟩⟩⟩⟩⟩
theorem st_J3_checkIndex_8e157 : Cond.static yJ3_checkIndex_8e157 ∈ allW := (aw2 125 (by decide +kernel) rfl)
theorem l9_J3_checkIndex_8e157 : Lk9 mk_J3_checkIndex_8e157 3 := ⟨(aw1 11 (by decide +kernel) rfl), (aw2 126 (by decide +kernel) rfl), by decide, by decide, by decide +kernel, by decide⟩
theorem lk_J0_335 : Lk RJ0 335 mk_J0_coder_7d493 0 := ⟨(aw2 102 (by decide +kernel) rfl), (aw1 9 (by decide +kernel) rfl), (aw2 105 (by decide +kernel) rfl), by decide, by decide, by decide +kernel, by decide⟩
theorem lk_J0_492 : Lk RJ0 492 mk_J0_isLatin1_aae02 0 := ⟨(aw2 112 (by decide +kernel) rfl), (aw1 9 (by decide +kernel) rfl), (aw2 115 (by decide +kernel) rfl), by decide, by decide, by decide +kernel, by decide⟩
theorem lk_J0_495 : Lk RJ0 495 mk_J1_charAt_3b067 2 := ⟨(aw2 116 (by decide +kernel) rfl), (aw1 10 (by decide +kernel) rfl), (aw2 118 (by decide +kernel) rfl), by decide, by decide, by decide +kernel, by decide⟩
theorem lk_J1_9 : Lk RJ1 9 mk_J0_checkIndex_df160 2 := ⟨(aw2 119 (by decide +kernel) rfl), (aw1 9 (by decide +kernel) rfl), (aw2 121 (by decide +kernel) rfl), by decide, by decide, by decide +kernel, by decide⟩
theorem lk_J0_1059 : Lk RJ0 1059 mk_J3_checkIndex_8e157 3 := ⟨(aw2 124 (by decide +kernel) rfl), (aw1 11 (by decide +kernel) rfl), (aw2 126 (by decide +kernel) rfl), by decide, by decide, by decide +kernel, by decide⟩
theorem lk_X4_117 : Lk RX4 117 mk_J0_length_8abf5 0 := ⟨(aw2 98 (by decide +kernel) rfl), (aw1 9 (by decide +kernel) rfl), (aw2 101 (by decide +kernel) rfl), by decide, by decide, by decide +kernel, by decide⟩
theorem lk_X4_121 : Lk RX4 121 mk_J0_charAt_5068e 1 := ⟨(aw2 108 (by decide +kernel) rfl), (aw1 9 (by decide +kernel) rfl), (aw2 111 (by decide +kernel) rfl), by decide, by decide, by decide +kernel, by decide⟩
set_option maxHeartbeats 4000000 in
set_option maxRecDepth 100000 in
theorem c_coder (i : Nat) (hi : i < 6) : Ctr mk_J0_coder_7d493 1 [.ref (1000 + i)] [] (fun r u => r = some (.int 0) ∧ u = []) := by
  refine Ctr.of rfl (Nat.le_of_ble_eq_true rfl) ?_
  intro x ad F hJ hR
  refine J.getsZ F hJ (idx := 38) (aw2 106 (by decide +kernel) rfl) (by decide +kernel) ?_
  show J x 1 (ad, 0, 0) (3, [(0, .ref (1000 + i))], [.int 1], [])
  refine J.run (sn_J0_coder_7d493 F) 2 [0] (S' := (7, [(0, .ref (1000 + i))], [.ref (1000 + i)], [])) (ob := [¬ (1 : Int32) = 0]) rfl (ob_c (by decide) ob_n) ?_
  refine J.getfC F hJ (idx := 15) i hi (aw5 66 (by decide +kernel) rfl) (by decide +kernel) ?_
  show J x 1 (ad, 0, 0) (10, [(0, .ref (1000 + i))], [.int 0], [])
  refine J.run (sn_J0_coder_7d493 F) 1 [] (S' := (14, [(0, .ref (1000 + i))], [.int 0], [])) (ob := []) rfl (ob_n) ?_
  exact J.iret F hR (Nat.le_refl _) (Nat.le_refl _) rfl rfl (by decide +kernel) ⟨rfl, keq [] rfl rfl, rfl, rfl⟩
set_option maxHeartbeats 4000000 in
set_option maxRecDepth 100000 in
theorem c_isLat (i : Nat) (hi : i < 6) : Ctr mk_J0_isLatin1_aae02 1 [.ref (1000 + i)] [] (fun r u => r = some (.int 1) ∧ u = []) := by
  refine Ctr.of rfl (Nat.le_of_ble_eq_true rfl) ?_
  intro x ad F hJ hR
  refine J.getsZ F hJ (idx := 38) (aw2 106 (by decide +kernel) rfl) (by decide +kernel) ?_
  show J x 1 (ad, 0, 0) (3, [(0, .ref (1000 + i))], [.int 1], [])
  refine J.run (sn_J0_isLatin1_aae02 F) 2 [0] (S' := (7, [(0, .ref (1000 + i))], [.ref (1000 + i)], [])) (ob := [¬ (1 : Int32) = 0]) rfl (ob_c (by decide) ob_n) ?_
  refine J.getfC F hJ (idx := 15) i hi (aw5 66 (by decide +kernel) rfl) (by decide +kernel) ?_
  show J x 1 (ad, 0, 0) (10, [(0, .ref (1000 + i))], [.int 0], [])
  refine J.run (sn_J0_isLatin1_aae02 F) 3 [0] (S' := (18, [(0, .ref (1000 + i))], [.int 1], [])) (ob := [(0 : Int32) = 0]) rfl (ob_c (by decide) ob_n) ?_
  exact J.iret F hR (Nat.le_refl _) (Nat.le_refl _) rfl rfl (by decide +kernel) ⟨rfl, keq [] rfl rfl, rfl, rfl⟩
set_option maxHeartbeats 4000000 in
set_option maxRecDepth 100000 in
theorem c_slen (i : Nat) (hi : i < 6) : Ctr mk_J0_length_8abf5 2 [.ref (1000 + i)] [] (fun r u => r = some (.int ((nI (jSL.getD i 0)) >>> ((0 : Int32) &&& 31))) ∧ u = []) := by
  refine Ctr.of rfl (Nat.le_of_ble_eq_true rfl) ?_
  intro x ad F hJ hR
  refine J.run (sn_J0_length_8abf5 F) 1 [] (S' := (1, [(0, .ref (1000 + i))], [.ref (1000 + i)], [])) (ob := []) rfl (ob_n) ?_
  refine J.getfS F hJ (idx := 9) i hi (aw5 65 (by decide +kernel) rfl) (by decide +kernel) ?_
  show J x 1 (ad, 0, 0) (4, [(0, .ref (1000 + i))], [.ref (1010 + i)], [])
  refine J.alenS F hJ i hi (by decide +kernel) ?_
  show J x 1 (ad, 0, 0) (5, [(0, .ref (1000 + i))], [.int (nI (jSL.getD i 0))], [])
  refine J.run (sn_J0_length_8abf5 F) 1 [] (S' := (6, [(0, .ref (1000 + i))], [.ref (1000 + i), .int (nI (jSL.getD i 0))], [])) (ob := []) rfl (ob_n) ?_
  refine J.callVS F hJ lk_J0_335 im_J0_coder_7d493 se_J0_coder_7d493 (by decide +kernel) (c_coder i hi) hi rfl (by decide) [.int (nI (jSL.getD i 0))] rfl rfl rfl (fun r ws' hp => ?_)
  obtain ⟨rfl, -⟩ := hp
  show J x 1 (ad, 0, 0) (9, [(0, .ref (1000 + i))], [.int 0, .int (nI (jSL.getD i 0))], [])
  refine J.run (sn_J0_length_8abf5 F) 1 [] (S' := (10, [(0, .ref (1000 + i))], [.int ((nI (jSL.getD i 0)) >>> ((0 : Int32) &&& 31))], [])) (ob := []) rfl (ob_n) ?_
  exact J.iret F hR (Nat.le_refl _) (Nat.le_refl _) rfl rfl (by decide +kernel) ⟨rfl, keq [] rfl rfl, rfl, rfl⟩
set_option maxHeartbeats 4000000 in
set_option maxRecDepth 100000 in
theorem c_pchk (a b : Int32) (h1 : ¬ a < 0) (h2 : a < b) (v : Value) (hv : v = .null ∨ v = .ref 1016) : Ctr mk_J3_checkIndex_8e157 1 [.int a, .int b, v] [] (fun r u => r = some (.int a) ∧ u = []) := by
  rcases hv with rfl | rfl
  · skip
    refine Ctr.of rfl (Nat.le_of_ble_eq_true rfl) ?_
    intro x ad F hJ hR
    refine J.run (sn_J3_checkIndex_8e157 F) 6 [0, 1] (S' := (17, [(0, .int a), (1, .int b), (2, .null)], [.int a], [])) (ob := [¬ a < 0, a < b]) rfl (ob_c h1 (ob_c h2 ob_n)) ?_
    exact J.iret F hR (Nat.le_refl _) (Nat.le_refl _) rfl rfl (by decide +kernel) ⟨rfl, keq [] rfl rfl, rfl, rfl⟩
  · skip
    refine Ctr.of rfl (Nat.le_of_ble_eq_true rfl) ?_
    intro x ad F hJ hR
    refine J.run (sn_J3_checkIndex_8e157 F) 6 [0, 1] (S' := (17, [(0, .int a), (1, .int b), (2, .ref 1016)], [.int a], [])) (ob := [¬ a < 0, a < b]) rfl (ob_c h1 (ob_c h2 ob_n)) ?_
    exact J.iret F hR (Nat.le_refl _) (Nat.le_refl _) rfl rfl (by decide +kernel) ⟨rfl, keq [] rfl rfl, rfl, rfl⟩
set_option maxHeartbeats 4000000 in
set_option maxRecDepth 100000 in
theorem c_schk (a b : Int32) (h1 : ¬ a < 0) (h2 : a < b) : Ctr mk_J0_checkIndex_df160 2 [.int a, .int b] [] (fun r u => r = none ∧ u = []) := by
  refine Ctr.of rfl (Nat.le_of_ble_eq_true rfl) ?_
  intro x ad F hJ hR
  refine J.run (sn_J0_checkIndex_df160 F) 2 [] (S' := (2, [(0, .int a), (1, .int b)], [.int b, .int a], [])) (ob := []) rfl (ob_n) ?_
  refine J.getsF F hJ (idx := 1053) (aw2 122 (by decide +kernel) rfl) (by decide +kernel) (fun v hv => ?_)
  rcases hv with rfl | rfl
  · skip
    show J x 2 (ad, 0, 0) (5, [(0, .int a), (1, .int b)], [.null, .int b, .int a], [])
    refine J.callS F hJ lk_J0_1059 st_J3_checkIndex_8e157 (by decide +kernel) (c_pchk a b h1 h2 (.null) (Or.inl rfl)) (fun k => k) (by decide) [] rfl rfl rfl (by decide) rfl (show List.Nodup [] by decide) (fun r ws' hk hp => ?_)
    obtain ⟨rfl, rfl⟩ := hp
    show J x 2 (ad, 0, 0) (8, [(0, .int a), (1, .int b)], [.int a], [])
    refine J.run (sn_J0_checkIndex_df160 F) 1 [] (S' := (9, [(0, .int a), (1, .int b)], [], [])) (ob := []) rfl (ob_n) ?_
    exact J.vret F hR (Nat.le_refl _) (Nat.le_refl _) rfl (by decide +kernel) ⟨rfl, keq [] rfl rfl, rfl, rfl⟩
  · skip
    show J x 2 (ad, 0, 0) (5, [(0, .int a), (1, .int b)], [.ref 1016, .int b, .int a], [])
    refine J.callS F hJ lk_J0_1059 st_J3_checkIndex_8e157 (by decide +kernel) (c_pchk a b h1 h2 (.ref 1016) (Or.inr rfl)) (fun k => k) (by decide) [] rfl rfl rfl (by decide) rfl (show List.Nodup [] by decide) (fun r ws' hk hp => ?_)
    obtain ⟨rfl, rfl⟩ := hp
    show J x 2 (ad, 0, 0) (8, [(0, .int a), (1, .int b)], [.int a], [])
    refine J.run (sn_J0_checkIndex_df160 F) 1 [] (S' := (9, [(0, .int a), (1, .int b)], [], [])) (ob := []) rfl (ob_n) ?_
    exact J.vret F hR (Nat.le_refl _) (Nat.le_refl _) rfl (by decide +kernel) ⟨rfl, keq [] rfl rfl, rfl, rfl⟩
set_option maxHeartbeats 4000000 in
set_option maxRecDepth 100000 in
theorem c_l1ch (i : Nat) (hi : i < 6) (q : Nat) (hq : q < jSL.getD i 0) (hq9 : jSL.getD i 0 < 2 ^ 31) (hnar : narrow .char (.int (chV i q)) = .int (chV i q)) : Ctr mk_J1_charAt_3b067 3 [.ref (1010 + i), .int (nI q)] [] (fun r u => r = some (.int (chV i q)) ∧ u = []) := by
  refine Ctr.of rfl (Nat.le_of_ble_eq_true rfl) ?_
  intro x ad F hJ hR
  refine J.run (sn_J1_charAt_3b067 F) 2 [] (S' := (2, [(0, .ref (1010 + i)), (1, .int (nI q))], [.ref (1010 + i), .int (nI q)], [])) (ob := []) rfl (ob_n) ?_
  refine J.alenS F hJ i hi (by decide +kernel) ?_
  show J x 2 (ad, 0, 0) (3, [(0, .ref (1010 + i)), (1, .int (nI q))], [.int (nI (jSL.getD i 0)), .int (nI q)], [])
  refine J.callS F hJ lk_J1_9 st_J0_checkIndex_df160 (by decide +kernel) (c_schk (nI q) (nI (jSL.getD i 0)) (n_nlt0 (by omega)) (n_lt (by omega) hq9 hq)) (fun k => k) (by decide) [] rfl rfl rfl (by decide) rfl (show List.Nodup [] by decide) (fun r ws' hk hp => ?_)
  obtain ⟨rfl, rfl⟩ := hp
  show J x 2 (ad, 0, 0) (6, [(0, .ref (1010 + i)), (1, .int (nI q))], [], [])
  refine J.run (sn_J1_charAt_3b067 F) 2 [] (S' := (8, [(0, .ref (1010 + i)), (1, .int (nI q))], [.int (nI q), .ref (1010 + i)], [])) (ob := []) rfl (ob_n) ?_
  refine J.baldS F hJ i hi q hq hq9 (by decide +kernel) ?_
  show J x 2 (ad, 0, 0) (9, [(0, .ref (1010 + i)), (1, .int (nI q))], [.int ((jSB.getD i []).getD q 0)], [])
  refine J.run (sn_J1_charAt_3b067 F) 2 [] (S' := (13, [(0, .ref (1010 + i)), (1, .int (nI q))], [.int (((jSB.getD i []).getD q 0) &&& 255)], [])) (ob := []) rfl (ob_n) ?_
  refine J.i2c F (by decide +kernel) ?_
  show J x 2 (ad, 0, 0) (14, [(0, .ref (1010 + i)), (1, .int (nI q))], [.int ((Int32.toUInt32 (((jSB.getD i []).getD q 0) &&& 255) % 65536).toInt32)], [])
  exact J.iret F hR (Nat.le_refl _) (Nat.le_refl _) rfl hnar (by decide +kernel) ⟨rfl, keq [] rfl rfl, rfl, rfl⟩
set_option maxHeartbeats 4000000 in
set_option maxRecDepth 100000 in
theorem c_chAt (i : Nat) (hi : i < 6) (q : Nat) (hq : q < jSL.getD i 0) (hq9 : jSL.getD i 0 < 2 ^ 31) (hnar : narrow .char (.int (chV i q)) = .int (chV i q)) : Ctr mk_J0_charAt_5068e 4 [.ref (1000 + i), .int (nI q)] [] (fun r u => r = some (.int (chV i q)) ∧ u = []) := by
  refine Ctr.of rfl (Nat.le_of_ble_eq_true rfl) ?_
  intro x ad F hJ hR
  refine J.run (sn_J0_charAt_5068e F) 1 [] (S' := (1, [(0, .ref (1000 + i)), (1, .int (nI q))], [.ref (1000 + i)], [])) (ob := []) rfl (ob_n) ?_
  refine J.callVS F hJ lk_J0_492 im_J0_isLatin1_aae02 se_J0_isLatin1_aae02 (by decide +kernel) (c_isLat i hi) hi rfl (by decide) [] rfl rfl rfl (fun r ws' hp => ?_)
  obtain ⟨rfl, -⟩ := hp
  show J x 2 (ad, 0, 0) (4, [(0, .ref (1000 + i)), (1, .int (nI q))], [.int 1], [])
  refine J.run (sn_J0_charAt_5068e F) 2 [0] (S' := (8, [(0, .ref (1000 + i)), (1, .int (nI q))], [.ref (1000 + i)], [])) (ob := [¬ (1 : Int32) = 0]) rfl (ob_c (by decide) ob_n) ?_
  refine J.getfS F hJ (idx := 9) i hi (aw5 65 (by decide +kernel) rfl) (by decide +kernel) ?_
  show J x 2 (ad, 0, 0) (11, [(0, .ref (1000 + i)), (1, .int (nI q))], [.ref (1010 + i)], [])
  refine J.run (sn_J0_charAt_5068e F) 1 [] (S' := (12, [(0, .ref (1000 + i)), (1, .int (nI q))], [.int (nI q), .ref (1010 + i)], [])) (ob := []) rfl (ob_n) ?_
  refine J.callS F hJ lk_J0_495 st_J1_charAt_3b067 (by decide +kernel) (c_l1ch i hi q hq hq9 hnar) (fun k => k) (by decide) [] rfl rfl rfl (by decide) rfl (show List.Nodup [] by decide) (fun r ws' hk hp => ?_)
  obtain ⟨rfl, rfl⟩ := hp
  show J x 2 (ad, 0, 0) (15, [(0, .ref (1000 + i)), (1, .int (nI q))], [.int (chV i q)], [])
  exact J.iret F hR (Nat.le_refl _) (Nat.le_refl _) rfl hnar (by decide +kernel) ⟨rfl, keq [] rfl rfl, rfl, rfl⟩
