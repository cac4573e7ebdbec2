/-! the script, and calls with places of the same name -/
def Sc (x : Cx) (b L : Nat) (xs : Nat → Int32) : Prop := match x with
  | (p, l, e, R, s, m, args, below, meth, c, D, cA, A, Q) => va_X b L xs s s.heap ∧ b < s.heap.size ∧ ¬ A b
theorem J.sld {x : Cx} {cc : ByteArray} {nL : Nat} {own nm : String} {ret : Option FieldType} {d : Nat} (F : Fx x cc nL own nm ret d) {b L : Nat} {xs : Nat → Int32} (hS9 : Sc x b L xs) {ad : Nat → Nat} (had : ad 900 = b) {cells slots pc : Nat} (hd : decode cc pc = .ok (.iaload, 1)) {i : Int32} (k : Nat) (hi : vp_in i L ∧ i.toNatClampNeg = k) {lv : List (Nat × Value)} {st : List Value} {W : Pw}
    (kk : J x nL (ad, cells, slots) (pc + 1, lv, .int (xs k) :: st, W)) : J x nL (ad, cells, slots) (pc, lv, .int i :: .ref 900 :: st, W) := by
  obtain ⟨p, l, e, R, s, m, args, below, meth, c, D, cA, A, Q⟩ := x
  obtain ⟨hx, hb, hml, hown, hts, hK, hA, hfr, hlo, hrt, hlk, hnm⟩ := F
  obtain ⟨h1, h2, h3⟩ := hS9
  subst had
  intro H locs ls hl hP hD hS hG
  refine va_sld hx hb h1 h2 h3 hS hi.1 hd ?_
  rw [hi.2]
  exact kk H locs ls hl hP hD hS hG
theorem J.slen {x : Cx} {cc : ByteArray} {nL : Nat} {own nm : String} {ret : Option FieldType} {d : Nat} (F : Fx x cc nL own nm ret d) {b L : Nat} {xs : Nat → Int32} (hS9 : Sc x b L xs) {ad : Nat → Nat} (had : ad 900 = b) {cells slots pc : Nat} (hd : decode cc pc = .ok (.arraylength, 1)) {lv : List (Nat × Value)} {st : List Value} {W : Pw}
    (kk : J x nL (ad, cells, slots) (pc + 1, lv, .int (nI L) :: st, W)) : J x nL (ad, cells, slots) (pc, lv, .ref 900 :: st, W) := by
  obtain ⟨p, l, e, R, s, m, args, below, meth, c, D, cA, A, Q⟩ := x
  obtain ⟨hx, hb, hml, hown, hts, hK, hA, hfr, hlo, hrt, hlk, hnm⟩ := F
  obtain ⟨h1, h2, h3⟩ := hS9
  subst had
  intro H locs ls hl hP hD hS hG
  refine va_slen hx hb h1 h2 h3 hS hd ?_
  exact kk H locs ls hl hP hD hS hG
theorem sc_i {j L : Nat} (m : Nat) (hm : m < 4) (hj : 4 * j + 4 ≤ L) (hL : L ≤ 2048) : vp_in (nI (4 * j) + nI m) L ∧ (nI (4 * j) + nI m).toNatClampNeg = 4 * j + m := by
  rw [nI_add]
  exact ⟨nI_in (by omega) (by omega), nI_clamp (by omega)⟩
theorem sc_0 {j L : Nat} (hj : 4 * j + 4 ≤ L) (hL : L ≤ 2048) : vp_in (nI (4 * j)) L ∧ (nI (4 * j)).toNatClampNeg = 4 * j := ⟨nI_in (by omega) (by omega), nI_clamp (by omega)⟩
theorem sc_1 {j L : Nat} (hj : 4 * j + 4 ≤ L) (hL : L ≤ 2048) : vp_in (nI (4 * j) + 1) L ∧ (nI (4 * j) + 1).toNatClampNeg = 4 * j + 1 := sc_i 1 (by decide) hj hL
theorem sc_2 {j L : Nat} (hj : 4 * j + 4 ≤ L) (hL : L ≤ 2048) : vp_in (nI (4 * j) + 2) L ∧ (nI (4 * j) + 2).toNatClampNeg = 4 * j + 2 := sc_i 2 (by decide) hj hL
theorem sc_3 {j L : Nat} (hj : 4 * j + 4 ≤ L) (hL : L ≤ 2048) : vp_in (nI (4 * j) + 3) L ∧ (nI (4 * j) + 3).toNatClampNeg = 4 * j + 3 := sc_i 3 (by decide) hj hL
def putW (ks : List Nat) (u W : Pw) : Pw := W.map (fun q => (q.1, (lookZ ks u q.1).getD q.2))
theorem ren_id (v : Value) : ren (fun k => k) v = v := by cases v <;> rfl
theorem ren_ids (l : List Value) : l.map (ren (fun k => k)) = l := by
  induction l with
  | nil => rfl
  | cons v l ih => rw [List.map_cons, ren_id, ih]
theorem renE_id (e : Pe) : renE (fun k => k) e = e := by
  rcases e with o | a | a
  · show Sum.inl (o.1, o.2.map (ren fun k => k)) = Sum.inl o
    rw [ren_ids]
  · rfl
  · show Sum.inr (Sum.inr (a.1, a.2.map (fun r => r.map (fun k => k)))) = Sum.inr (Sum.inr a)
    congr 2
    obtain ⟨t, l⟩ := a
    congr 1
    show l.map (fun r => r.map (fun k => k)) = l
    induction l with
    | nil => rfl
    | cons r l ih => rw [List.map_cons, ih]; cases r <;> rfl
theorem updZ_id (ks : List Nat) (u : Pw) : ∀ W : Pw, updZ (fun k => k) ks u W = putW ks u W := by
  intro W
  induction W with
  | nil => rfl
  | cons q W ih =>
    show (q.1, pickZ (fun k => k) (lookZ ks u q.1) q.2) :: updZ (fun k => k) ks u W = (q.1, (lookZ ks u q.1).getD q.2) :: putW ks u W
    rw [ih]
    cases lookZ ks u q.1 with
    | none => rfl
    | some e => show (q.1, renE (fun k => k) e) :: _ = _; rw [renE_id]; rfl
theorem wget_putW {ks : List Nat} {k : Nat} (hk : nin k ks = true) (u : Pw) : ∀ W : Pw, wget (putW ks u W) k = wget W k := by
  intro W
  induction W with
  | nil => rfl
  | cons q W ih =>
    show (bif Nat.beq q.1 k then some ((lookZ ks u q.1).getD q.2) else wget (putW ks u W) k) = (bif Nat.beq q.1 k then some q.2 else wget W k)
    rw [ih]
    cases hb : Nat.beq q.1 k with
    | false => rfl
    | true =>
      have e : q.1 = k := Nat.eq_of_beq_eq_true hb
      rw [e, lookZ_no (nin_of hk)]
      rfl
theorem J.callW {x : Cx} {cc : ByteArray} {nL : Nat} {own nm : String} {ret : Option FieldType} {d : Nat} (F : Fx x cc nL own nm ret d) {ad : Nat → Nat} {cells slots : Nat} (hJ : jSx x ad) {pc idx n : Nat} {k : Mk} (hL : Lk own idx k n) (hin9 : Cond.instanceMethod k.1 ∈ allW) (hsel9 : Cond.selects k.1.cls k.1 k.1 ∈ allW) (hd : decode cc pc = .ok (.invokevirtual idx, 3)) {d' k0 ci N : Nat} {T : u_T} {fs : List Value} {av : List Value} {ws : Pw} {Post : Option Value → Pw → Prop} (hC : Ctr k d' (.ref k0 :: av) ws Post) (hdd : d' + 1 ≤ d) {lv : List (Nat × Value)} {st : List Value} {W : Pw} (rest : List Value) (ks : List Nat) (hks : ws.map Prod.fst = ks) (hst : st = av.reverse ++ .ref k0 :: rest) (hn : av.length = n) (hcs : Nat.ble (csum rest) 8 = true)
    (hrc : wget ws k0 = some (.inl (ci, fs))) (hci : vwCl[ci]? = some (k.1.cls, T, N)) (hsub : ws.map (fun q => wget W q.1) = ws.map (fun q => some q.2)) (hnd : ks.Nodup)
    (kk : ∀ (r : Option Value) (ws' : Pw), ws'.map Prod.fst = ks → Post r ws' → J x nL (ad, cells, slots) (pc + 3, lv, r.toList ++ rest, putW ks ws' W)) : J x nL (ad, cells, slots) (pc, lv, st, W) := by
  refine J.callVK F hJ hL hin9 hsel9 hd hC (fun k => k) hdd rest ks (by rw [← hks]; exact List.map_id' _) ?_ hn hcs hrc hci (fun _ _ => rfl) ?_ hnd (fun r ws' hk hp => ?_)
  · rw [ren_ids]; exact hst
  · rw [hsub]
    refine List.map_congr_left fun q _ => ?_
    rw [renE_id]
  · have h := kk r ws' (hk.trans hks) hp
    rw [updZ_id]
    rw [show r.map (ren fun k => k) = r by cases r with | none => rfl | some v => show some _ = _; rw [ren_id]]
    exact h
def lvL (j : Nat) : List (Nat × Value) := [(0, .ref 900), (1, .ref 0), (2, .ref 500), (3, .int (nI (4 * j)))]
theorem lk_L_9 : Lk RL 9 mk_X6_init 0 := ⟨(aw1 17 (by decide +kernel) rfl), (aw1 1 (by decide +kernel) rfl), (aw1 19 (by decide +kernel) rfl), by decide, by decide, by decide +kernel, by decide⟩
theorem im_X6_init : Cond.instanceMethod yX6_init ∈ allW := (aw1 18 (by decide +kernel) rfl)
theorem l9_X6_init : Lk9 mk_X6_init 0 := ⟨(aw1 1 (by decide +kernel) rfl), (aw1 19 (by decide +kernel) rfl), by decide, by decide, by decide +kernel, by decide⟩
theorem lk_L_12 : Lk RL 12 mk_X7_init 0 := ⟨(aw3 206 (by decide +kernel) rfl), (aw1 8 (by decide +kernel) rfl), (aw3 208 (by decide +kernel) rfl), by decide, by decide, by decide +kernel, by decide⟩
theorem im_X7_init : Cond.instanceMethod yX7_init ∈ allW := (aw3 207 (by decide +kernel) rfl)
theorem l9_X7_init : Lk9 mk_X7_init 0 := ⟨(aw1 8 (by decide +kernel) rfl), (aw3 208 (by decide +kernel) rfl), by decide, by decide, by decide +kernel, by decide⟩
def tb_L_h : List (Nat × Op) := [(3, o_dup), (7, o_astore 1 1), (11, o_dup), (15, o_astore 2 1), (16, o_push (.int 0) 1), (17, o_istore 3 1), (18, o_iload 3 1), (19, o_aload 0 1), (21, o_push (.int 4) 1), (22, o_isub), (23, o_icmp_gt 779), (26, o_aload 0 1), (27, o_iload 3 1), (29, o_push (.int 31) 2), (31, o_iand), (32, o_switch 0 24 [148, 211, 224, 237, 260, 293, 316, 349, 392, 415, 438, 451, 484, 497, 520, 533, 566, 589, 622, 655, 668, 681, 704, 727, 750] 773)]
set_option maxRecDepth 20000 in
set_option maxHeartbeats 4000000 in
theorem sn_L_h {x : Cx} {nm : String} {d : Nat} (F : Fx x cL_law 4 RL nm (some .boolean) d) : ∀ q ∈ tb_L_h, Snd x 4 q :=
  List.forall_mem_cons.mpr ⟨s_dup F (by decide +kernel),
    List.forall_mem_cons.mpr ⟨s_astore_n F (a := 1) rfl (by decide) (by decide +kernel),
    List.forall_mem_cons.mpr ⟨s_dup F (by decide +kernel),
    List.forall_mem_cons.mpr ⟨s_astore_n F (a := 2) rfl (by decide) (by decide +kernel),
    List.forall_mem_cons.mpr ⟨s_iconst F (n := 0) (by decide +kernel) (by decide +kernel),
    List.forall_mem_cons.mpr ⟨s_istore_n F (a := 3) rfl (by decide) (by decide +kernel),
    List.forall_mem_cons.mpr ⟨s_iload_n F (a := 3) rfl (by decide +kernel),
    List.forall_mem_cons.mpr ⟨s_aload_n F (a := 0) rfl (by decide +kernel),
    List.forall_mem_cons.mpr ⟨s_iconst F (n := 4) (by decide +kernel) (by decide +kernel),
    List.forall_mem_cons.mpr ⟨s_isub F (by decide +kernel),
    List.forall_mem_cons.mpr ⟨s_icmp_gt F (off := 756) (by decide) (by decide +kernel),
    List.forall_mem_cons.mpr ⟨s_aload_n F (a := 0) rfl (by decide +kernel),
    List.forall_mem_cons.mpr ⟨s_iload_n F (a := 3) rfl (by decide +kernel),
    List.forall_mem_cons.mpr ⟨s_bipush F (n := 31) (by decide +kernel) (by decide +kernel),
    List.forall_mem_cons.mpr ⟨s_iand F (by decide +kernel),
    List.forall_mem_cons.mpr ⟨s_switch F (dflt := 741) (lo := 0) (hi := 24) (offs := #[116, 179, 192, 205, 228, 261, 284, 317, 360, 383, 406, 419, 452, 465, 488, 501, 534, 557, 590, 623, 636, 649, 672, 695, 718]) (len := 116) (by decide) (by intro j hj; match j, hj with | 0, _ => exact ⟨_, rfl, by decide⟩ | 1, _ => exact ⟨_, rfl, by decide⟩ | 2, _ => exact ⟨_, rfl, by decide⟩ | 3, _ => exact ⟨_, rfl, by decide⟩ | 4, _ => exact ⟨_, rfl, by decide⟩ | 5, _ => exact ⟨_, rfl, by decide⟩ | 6, _ => exact ⟨_, rfl, by decide⟩ | 7, _ => exact ⟨_, rfl, by decide⟩ | 8, _ => exact ⟨_, rfl, by decide⟩ | 9, _ => exact ⟨_, rfl, by decide⟩ | 10, _ => exact ⟨_, rfl, by decide⟩ | 11, _ => exact ⟨_, rfl, by decide⟩ | 12, _ => exact ⟨_, rfl, by decide⟩ | 13, _ => exact ⟨_, rfl, by decide⟩ | 14, _ => exact ⟨_, rfl, by decide⟩ | 15, _ => exact ⟨_, rfl, by decide⟩ | 16, _ => exact ⟨_, rfl, by decide⟩ | 17, _ => exact ⟨_, rfl, by decide⟩ | 18, _ => exact ⟨_, rfl, by decide⟩ | 19, _ => exact ⟨_, rfl, by decide⟩ | 20, _ => exact ⟨_, rfl, by decide⟩ | 21, _ => exact ⟨_, rfl, by decide⟩ | 22, _ => exact ⟨_, rfl, by decide⟩ | 23, _ => exact ⟨_, rfl, by decide⟩ | 24, _ => exact ⟨_, rfl, by decide⟩ | k + 25, hj => exact absurd hj (by omega)) (by decide +kernel),
    (fun _ h => absurd h List.not_mem_nil)⟩⟩⟩⟩⟩⟩⟩⟩⟩⟩⟩⟩⟩⟩⟩⟩
def tb_L_e : List (Nat × Op) := [(773, o_iinc 3 4), (776, o_goto 18), (779, o_push (.int 1) 1)]
set_option maxRecDepth 20000 in
set_option maxHeartbeats 4000000 in
theorem sn_L_e {x : Cx} {nm : String} {d : Nat} (F : Fx x cL_law 4 RL nm (some .boolean) d) : ∀ q ∈ tb_L_e, Snd x 4 q :=
  List.forall_mem_cons.mpr ⟨s_iinc F (z := 4) (by decide +kernel) (by decide) (by decide +kernel),
    List.forall_mem_cons.mpr ⟨s_goto F (off := (-758)) (by decide) (by decide +kernel),
    List.forall_mem_cons.mpr ⟨s_iconst F (n := 1) (by decide +kernel) (by decide +kernel),
    (fun _ h => absurd h List.not_mem_nil)⟩⟩⟩
def tb_L_0 : List (Nat × Op) := [(148, o_aload 1 1), (149, o_aload 0 1), (150, o_iload 3 1), (151, o_push (.int 1) 1), (152, o_iadd), (154, o_aload 0 1), (155, o_iload 3 1), (156, o_push (.int 2) 1), (157, o_iadd), (159, o_i2l), (160, o_push (.int 32) 2), (162, o_lshl), (163, o_aload 0 1), (164, o_iload 3 1), (165, o_push (.int 3) 1), (166, o_iadd), (168, o_i2l), (169, o_push (.long 4294967295) 3), (172, o_land), (173, o_lor), (177, o_aload 2 1), (178, o_aload 0 1), (179, o_iload 3 1), (180, o_push (.int 1) 1), (181, o_iadd), (183, o_aload 0 1), (184, o_iload 3 1), (185, o_push (.int 2) 1), (186, o_iadd), (188, o_i2l), (189, o_push (.int 32) 2), (191, o_lshl), (192, o_aload 0 1), (193, o_iload 3 1), (194, o_push (.int 3) 1), (195, o_iadd), (197, o_i2l), (198, o_push (.long 4294967295) 3), (201, o_land), (202, o_lor), (206, o_icmp_eq 773), (209, o_push (.int 0) 1)]
set_option maxRecDepth 20000 in
set_option maxHeartbeats 4000000 in
theorem sn_L_0 {x : Cx} {nm : String} {d : Nat} (F : Fx x cL_law 4 RL nm (some .boolean) d) : ∀ q ∈ tb_L_0, Snd x 4 q :=
  List.forall_mem_cons.mpr ⟨s_aload_n F (a := 1) rfl (by decide +kernel),
    List.forall_mem_cons.mpr ⟨s_aload_n F (a := 0) rfl (by decide +kernel),
    List.forall_mem_cons.mpr ⟨s_iload_n F (a := 3) rfl (by decide +kernel),
    List.forall_mem_cons.mpr ⟨s_iconst F (n := 1) (by decide +kernel) (by decide +kernel),
    List.forall_mem_cons.mpr ⟨s_iadd F (by decide +kernel),
    List.forall_mem_cons.mpr ⟨s_aload_n F (a := 0) rfl (by decide +kernel),
    List.forall_mem_cons.mpr ⟨s_iload_n F (a := 3) rfl (by decide +kernel),
    List.forall_mem_cons.mpr ⟨s_iconst F (n := 2) (by decide +kernel) (by decide +kernel),
    List.forall_mem_cons.mpr ⟨s_iadd F (by decide +kernel),
    List.forall_mem_cons.mpr ⟨s_i2l F (by decide +kernel),
    List.forall_mem_cons.mpr ⟨s_bipush F (n := 32) (by decide +kernel) (by decide +kernel),
    List.forall_mem_cons.mpr ⟨s_lshl F (by decide +kernel),
    List.forall_mem_cons.mpr ⟨s_aload_n F (a := 0) rfl (by decide +kernel),
    List.forall_mem_cons.mpr ⟨s_iload_n F (a := 3) rfl (by decide +kernel),
    List.forall_mem_cons.mpr ⟨s_iconst F (n := 3) (by decide +kernel) (by decide +kernel),
    List.forall_mem_cons.mpr ⟨s_iadd F (by decide +kernel),
    List.forall_mem_cons.mpr ⟨s_i2l F (by decide +kernel),
    List.forall_mem_cons.mpr ⟨s_ldc2 F (i := 13) (aw5 64 (by decide +kernel) rfl) (by decide +kernel),
    List.forall_mem_cons.mpr ⟨s_land F (by decide +kernel),
    List.forall_mem_cons.mpr ⟨s_lor F (by decide +kernel),
    List.forall_mem_cons.mpr ⟨s_aload_n F (a := 2) rfl (by decide +kernel),
    List.forall_mem_cons.mpr ⟨s_aload_n F (a := 0) rfl (by decide +kernel),
    List.forall_mem_cons.mpr ⟨s_iload_n F (a := 3) rfl (by decide +kernel),
    List.forall_mem_cons.mpr ⟨s_iconst F (n := 1) (by decide +kernel) (by decide +kernel),
    List.forall_mem_cons.mpr ⟨s_iadd F (by decide +kernel),
    List.forall_mem_cons.mpr ⟨s_aload_n F (a := 0) rfl (by decide +kernel),
    List.forall_mem_cons.mpr ⟨s_iload_n F (a := 3) rfl (by decide +kernel),
    List.forall_mem_cons.mpr ⟨s_iconst F (n := 2) (by decide +kernel) (by decide +kernel),
    List.forall_mem_cons.mpr ⟨s_iadd F (by decide +kernel),
    List.forall_mem_cons.mpr ⟨s_i2l F (by decide +kernel),
    List.forall_mem_cons.mpr ⟨s_bipush F (n := 32) (by decide +kernel) (by decide +kernel),
    List.forall_mem_cons.mpr ⟨s_lshl F (by decide +kernel),
    List.forall_mem_cons.mpr ⟨s_aload_n F (a := 0) rfl (by decide +kernel),
    List.forall_mem_cons.mpr ⟨s_iload_n F (a := 3) rfl (by decide +kernel),
    List.forall_mem_cons.mpr ⟨s_iconst F (n := 3) (by decide +kernel) (by decide +kernel),
    List.forall_mem_cons.mpr ⟨s_iadd F (by decide +kernel),
    List.forall_mem_cons.mpr ⟨s_i2l F (by decide +kernel),
    List.forall_mem_cons.mpr ⟨s_ldc2 F (i := 13) (aw5 64 (by decide +kernel) rfl) (by decide +kernel),
    List.forall_mem_cons.mpr ⟨s_land F (by decide +kernel),
    List.forall_mem_cons.mpr ⟨s_lor F (by decide +kernel),
    List.forall_mem_cons.mpr ⟨s_icmp_eq F (off := 567) (by decide) (by decide +kernel),
    List.forall_mem_cons.mpr ⟨s_iconst F (n := 0) (by decide +kernel) (by decide +kernel),
    (fun _ h => absurd h List.not_mem_nil)⟩⟩⟩⟩⟩⟩⟩⟩⟩⟩⟩⟩⟩⟩⟩⟩⟩⟩⟩⟩⟩⟩⟩⟩⟩⟩⟩⟩⟩⟩⟩⟩⟩⟩⟩⟩⟩⟩⟩⟩⟩⟩
def tb_L_1 : List (Nat × Op) := [(211, o_aload 1 1), (215, o_aload 2 1), (219, o_icmp_eq 773), (222, o_push (.int 0) 1)]
set_option maxRecDepth 20000 in
set_option maxHeartbeats 4000000 in
theorem sn_L_1 {x : Cx} {nm : String} {d : Nat} (F : Fx x cL_law 4 RL nm (some .boolean) d) : ∀ q ∈ tb_L_1, Snd x 4 q :=
  List.forall_mem_cons.mpr ⟨s_aload_n F (a := 1) rfl (by decide +kernel),
    List.forall_mem_cons.mpr ⟨s_aload_n F (a := 2) rfl (by decide +kernel),
    List.forall_mem_cons.mpr ⟨s_icmp_eq F (off := 554) (by decide) (by decide +kernel),
    List.forall_mem_cons.mpr ⟨s_iconst F (n := 0) (by decide +kernel) (by decide +kernel),
    (fun _ h => absurd h List.not_mem_nil)⟩⟩⟩⟩
def tb_L_2 : List (Nat × Op) := [(224, o_aload 1 1), (228, o_aload 2 1), (232, o_icmp_eq 773), (235, o_push (.int 0) 1)]
set_option maxRecDepth 20000 in
set_option maxHeartbeats 4000000 in
theorem sn_L_2 {x : Cx} {nm : String} {d : Nat} (F : Fx x cL_law 4 RL nm (some .boolean) d) : ∀ q ∈ tb_L_2, Snd x 4 q :=
  List.forall_mem_cons.mpr ⟨s_aload_n F (a := 1) rfl (by decide +kernel),
    List.forall_mem_cons.mpr ⟨s_aload_n F (a := 2) rfl (by decide +kernel),
    List.forall_mem_cons.mpr ⟨s_icmp_eq F (off := 541) (by decide) (by decide +kernel),
    List.forall_mem_cons.mpr ⟨s_iconst F (n := 0) (by decide +kernel) (by decide +kernel),
    (fun _ h => absurd h List.not_mem_nil)⟩⟩⟩⟩
def tb_L_3 : List (Nat × Op) := [(237, o_aload 1 1), (238, o_aload 0 1), (239, o_iload 3 1), (240, o_push (.int 1) 1), (241, o_iadd), (246, o_aload 2 1), (247, o_aload 0 1), (248, o_iload 3 1), (249, o_push (.int 1) 1), (250, o_iadd), (255, o_icmp_eq 773), (258, o_push (.int 0) 1)]
set_option maxRecDepth 20000 in
set_option maxHeartbeats 4000000 in
theorem sn_L_3 {x : Cx} {nm : String} {d : Nat} (F : Fx x cL_law 4 RL nm (some .boolean) d) : ∀ q ∈ tb_L_3, Snd x 4 q :=
  List.forall_mem_cons.mpr ⟨s_aload_n F (a := 1) rfl (by decide +kernel),
    List.forall_mem_cons.mpr ⟨s_aload_n F (a := 0) rfl (by decide +kernel),
    List.forall_mem_cons.mpr ⟨s_iload_n F (a := 3) rfl (by decide +kernel),
    List.forall_mem_cons.mpr ⟨s_iconst F (n := 1) (by decide +kernel) (by decide +kernel),
    List.forall_mem_cons.mpr ⟨s_iadd F (by decide +kernel),
    List.forall_mem_cons.mpr ⟨s_aload_n F (a := 2) rfl (by decide +kernel),
    List.forall_mem_cons.mpr ⟨s_aload_n F (a := 0) rfl (by decide +kernel),
    List.forall_mem_cons.mpr ⟨s_iload_n F (a := 3) rfl (by decide +kernel),
    List.forall_mem_cons.mpr ⟨s_iconst F (n := 1) (by decide +kernel) (by decide +kernel),
    List.forall_mem_cons.mpr ⟨s_iadd F (by decide +kernel),
    List.forall_mem_cons.mpr ⟨s_icmp_eq F (off := 518) (by decide) (by decide +kernel),
    List.forall_mem_cons.mpr ⟨s_iconst F (n := 0) (by decide +kernel) (by decide +kernel),
    (fun _ h => absurd h List.not_mem_nil)⟩⟩⟩⟩⟩⟩⟩⟩⟩⟩⟩⟩
def tb_L_4 : List (Nat × Op) := [(260, o_aload 1 1), (261, o_aload 0 1), (262, o_iload 3 1), (263, o_push (.int 1) 1), (264, o_iadd), (266, o_aload 0 1), (267, o_iload 3 1), (268, o_push (.int 2) 1), (269, o_iadd), (274, o_aload 2 1), (275, o_aload 0 1), (276, o_iload 3 1), (277, o_push (.int 1) 1), (278, o_iadd), (280, o_aload 0 1), (281, o_iload 3 1), (282, o_push (.int 2) 1), (283, o_iadd), (288, o_icmp_eq 773), (291, o_push (.int 0) 1)]
set_option maxRecDepth 20000 in
set_option maxHeartbeats 4000000 in
theorem sn_L_4 {x : Cx} {nm : String} {d : Nat} (F : Fx x cL_law 4 RL nm (some .boolean) d) : ∀ q ∈ tb_L_4, Snd x 4 q :=
  List.forall_mem_cons.mpr ⟨s_aload_n F (a := 1) rfl (by decide +kernel),
    List.forall_mem_cons.mpr ⟨s_aload_n F (a := 0) rfl (by decide +kernel),
    List.forall_mem_cons.mpr ⟨s_iload_n F (a := 3) rfl (by decide +kernel),
    List.forall_mem_cons.mpr ⟨s_iconst F (n := 1) (by decide +kernel) (by decide +kernel),
    List.forall_mem_cons.mpr ⟨s_iadd F (by decide +kernel),
    List.forall_mem_cons.mpr ⟨s_aload_n F (a := 0) rfl (by decide +kernel),
    List.forall_mem_cons.mpr ⟨s_iload_n F (a := 3) rfl (by decide +kernel),
    List.forall_mem_cons.mpr ⟨s_iconst F (n := 2) (by decide +kernel) (by decide +kernel),
    List.forall_mem_cons.mpr ⟨s_iadd F (by decide +kernel),
    List.forall_mem_cons.mpr ⟨s_aload_n F (a := 2) rfl (by decide +kernel),
    List.forall_mem_cons.mpr ⟨s_aload_n F (a := 0) rfl (by decide +kernel),
    List.forall_mem_cons.mpr ⟨s_iload_n F (a := 3) rfl (by decide +kernel),
    List.forall_mem_cons.mpr ⟨s_iconst F (n := 1) (by decide +kernel) (by decide +kernel),
    List.forall_mem_cons.mpr ⟨s_iadd F (by decide +kernel),
    List.forall_mem_cons.mpr ⟨s_aload_n F (a := 0) rfl (by decide +kernel),
    List.forall_mem_cons.mpr ⟨s_iload_n F (a := 3) rfl (by decide +kernel),
    List.forall_mem_cons.mpr ⟨s_iconst F (n := 2) (by decide +kernel) (by decide +kernel),
    List.forall_mem_cons.mpr ⟨s_iadd F (by decide +kernel),
    List.forall_mem_cons.mpr ⟨s_icmp_eq F (off := 485) (by decide) (by decide +kernel),
    List.forall_mem_cons.mpr ⟨s_iconst F (n := 0) (by decide +kernel) (by decide +kernel),
    (fun _ h => absurd h List.not_mem_nil)⟩⟩⟩⟩⟩⟩⟩⟩⟩⟩⟩⟩⟩⟩⟩⟩⟩⟩⟩⟩
def tb_L_5 : List (Nat × Op) := [(293, o_aload 1 1), (294, o_aload 0 1), (295, o_iload 3 1), (296, o_push (.int 1) 1), (297, o_iadd), (302, o_aload 2 1), (303, o_aload 0 1), (304, o_iload 3 1), (305, o_push (.int 1) 1), (306, o_iadd), (311, o_icmp_eq 773), (314, o_push (.int 0) 1)]
set_option maxRecDepth 20000 in
set_option maxHeartbeats 4000000 in
theorem sn_L_5 {x : Cx} {nm : String} {d : Nat} (F : Fx x cL_law 4 RL nm (some .boolean) d) : ∀ q ∈ tb_L_5, Snd x 4 q :=
  List.forall_mem_cons.mpr ⟨s_aload_n F (a := 1) rfl (by decide +kernel),
    List.forall_mem_cons.mpr ⟨s_aload_n F (a := 0) rfl (by decide +kernel),
    List.forall_mem_cons.mpr ⟨s_iload_n F (a := 3) rfl (by decide +kernel),
    List.forall_mem_cons.mpr ⟨s_iconst F (n := 1) (by decide +kernel) (by decide +kernel),
    List.forall_mem_cons.mpr ⟨s_iadd F (by decide +kernel),
    List.forall_mem_cons.mpr ⟨s_aload_n F (a := 2) rfl (by decide +kernel),
    List.forall_mem_cons.mpr ⟨s_aload_n F (a := 0) rfl (by decide +kernel),
    List.forall_mem_cons.mpr ⟨s_iload_n F (a := 3) rfl (by decide +kernel),
    List.forall_mem_cons.mpr ⟨s_iconst F (n := 1) (by decide +kernel) (by decide +kernel),
    List.forall_mem_cons.mpr ⟨s_iadd F (by decide +kernel),
    List.forall_mem_cons.mpr ⟨s_icmp_eq F (off := 462) (by decide) (by decide +kernel),
    List.forall_mem_cons.mpr ⟨s_iconst F (n := 0) (by decide +kernel) (by decide +kernel),
    (fun _ h => absurd h List.not_mem_nil)⟩⟩⟩⟩⟩⟩⟩⟩⟩⟩⟩⟩
def tb_L_6 : List (Nat × Op) := [(316, o_aload 1 1), (317, o_aload 0 1), (318, o_iload 3 1), (319, o_push (.int 1) 1), (320, o_iadd), (322, o_aload 0 1), (323, o_iload 3 1), (324, o_push (.int 2) 1), (325, o_iadd), (330, o_aload 2 1), (331, o_aload 0 1), (332, o_iload 3 1), (333, o_push (.int 1) 1), (334, o_iadd), (336, o_aload 0 1), (337, o_iload 3 1), (338, o_push (.int 2) 1), (339, o_iadd), (344, o_icmp_eq 773), (347, o_push (.int 0) 1)]
set_option maxRecDepth 20000 in
set_option maxHeartbeats 4000000 in
theorem sn_L_6 {x : Cx} {nm : String} {d : Nat} (F : Fx x cL_law 4 RL nm (some .boolean) d) : ∀ q ∈ tb_L_6, Snd x 4 q :=
  List.forall_mem_cons.mpr ⟨s_aload_n F (a := 1) rfl (by decide +kernel),
    List.forall_mem_cons.mpr ⟨s_aload_n F (a := 0) rfl (by decide +kernel),
    List.forall_mem_cons.mpr ⟨s_iload_n F (a := 3) rfl (by decide +kernel),
    List.forall_mem_cons.mpr ⟨s_iconst F (n := 1) (by decide +kernel) (by decide +kernel),
    List.forall_mem_cons.mpr ⟨s_iadd F (by decide +kernel),
    List.forall_mem_cons.mpr ⟨s_aload_n F (a := 0) rfl (by decide +kernel),
    List.forall_mem_cons.mpr ⟨s_iload_n F (a := 3) rfl (by decide +kernel),
    List.forall_mem_cons.mpr ⟨s_iconst F (n := 2) (by decide +kernel) (by decide +kernel),
    List.forall_mem_cons.mpr ⟨s_iadd F (by decide +kernel),
    List.forall_mem_cons.mpr ⟨s_aload_n F (a := 2) rfl (by decide +kernel),
    List.forall_mem_cons.mpr ⟨s_aload_n F (a := 0) rfl (by decide +kernel),
    List.forall_mem_cons.mpr ⟨s_iload_n F (a := 3) rfl (by decide +kernel),
    List.forall_mem_cons.mpr ⟨s_iconst F (n := 1) (by decide +kernel) (by decide +kernel),
    List.forall_mem_cons.mpr ⟨s_iadd F (by decide +kernel),
    List.forall_mem_cons.mpr ⟨s_aload_n F (a := 0) rfl (by decide +kernel),
    List.forall_mem_cons.mpr ⟨s_iload_n F (a := 3) rfl (by decide +kernel),
    List.forall_mem_cons.mpr ⟨s_iconst F (n := 2) (by decide +kernel) (by decide +kernel),
    List.forall_mem_cons.mpr ⟨s_iadd F (by decide +kernel),
    List.forall_mem_cons.mpr ⟨s_icmp_eq F (off := 429) (by decide) (by decide +kernel),
    List.forall_mem_cons.mpr ⟨s_iconst F (n := 0) (by decide +kernel) (by decide +kernel),
    (fun _ h => absurd h List.not_mem_nil)⟩⟩⟩⟩⟩⟩⟩⟩⟩⟩⟩⟩⟩⟩⟩⟩⟩⟩⟩⟩
def tb_L_7 : List (Nat × Op) := [(349, o_aload 1 1), (350, o_aload 0 1), (351, o_iload 3 1), (352, o_push (.int 1) 1), (353, o_iadd), (355, o_aload 0 1), (356, o_iload 3 1), (357, o_push (.int 2) 1), (358, o_iadd), (360, o_aload 0 1), (361, o_iload 3 1), (362, o_push (.int 3) 1), (363, o_iadd), (368, o_aload 2 1), (369, o_aload 0 1), (370, o_iload 3 1), (371, o_push (.int 1) 1), (372, o_iadd), (374, o_aload 0 1), (375, o_iload 3 1), (376, o_push (.int 2) 1), (377, o_iadd), (379, o_aload 0 1), (380, o_iload 3 1), (381, o_push (.int 3) 1), (382, o_iadd), (387, o_icmp_eq 773), (390, o_push (.int 0) 1)]
set_option maxRecDepth 20000 in
set_option maxHeartbeats 4000000 in
theorem sn_L_7 {x : Cx} {nm : String} {d : Nat} (F : Fx x cL_law 4 RL nm (some .boolean) d) : ∀ q ∈ tb_L_7, Snd x 4 q :=
  List.forall_mem_cons.mpr ⟨s_aload_n F (a := 1) rfl (by decide +kernel),
    List.forall_mem_cons.mpr ⟨s_aload_n F (a := 0) rfl (by decide +kernel),
    List.forall_mem_cons.mpr ⟨s_iload_n F (a := 3) rfl (by decide +kernel),
    List.forall_mem_cons.mpr ⟨s_iconst F (n := 1) (by decide +kernel) (by decide +kernel),
    List.forall_mem_cons.mpr ⟨s_iadd F (by decide +kernel),
    List.forall_mem_cons.mpr ⟨s_aload_n F (a := 0) rfl (by decide +kernel),
    List.forall_mem_cons.mpr ⟨s_iload_n F (a := 3) rfl (by decide +kernel),
    List.forall_mem_cons.mpr ⟨s_iconst F (n := 2) (by decide +kernel) (by decide +kernel),
    List.forall_mem_cons.mpr ⟨s_iadd F (by decide +kernel),
    List.forall_mem_cons.mpr ⟨s_aload_n F (a := 0) rfl (by decide +kernel),
    List.forall_mem_cons.mpr ⟨s_iload_n F (a := 3) rfl (by decide +kernel),
    List.forall_mem_cons.mpr ⟨s_iconst F (n := 3) (by decide +kernel) (by decide +kernel),
    List.forall_mem_cons.mpr ⟨s_iadd F (by decide +kernel),
    List.forall_mem_cons.mpr ⟨s_aload_n F (a := 2) rfl (by decide +kernel),
    List.forall_mem_cons.mpr ⟨s_aload_n F (a := 0) rfl (by decide +kernel),
    List.forall_mem_cons.mpr ⟨s_iload_n F (a := 3) rfl (by decide +kernel),
    List.forall_mem_cons.mpr ⟨s_iconst F (n := 1) (by decide +kernel) (by decide +kernel),
    List.forall_mem_cons.mpr ⟨s_iadd F (by decide +kernel),
    List.forall_mem_cons.mpr ⟨s_aload_n F (a := 0) rfl (by decide +kernel),
    List.forall_mem_cons.mpr ⟨s_iload_n F (a := 3) rfl (by decide +kernel),
    List.forall_mem_cons.mpr ⟨s_iconst F (n := 2) (by decide +kernel) (by decide +kernel),
    List.forall_mem_cons.mpr ⟨s_iadd F (by decide +kernel),
    List.forall_mem_cons.mpr ⟨s_aload_n F (a := 0) rfl (by decide +kernel),
    List.forall_mem_cons.mpr ⟨s_iload_n F (a := 3) rfl (by decide +kernel),
    List.forall_mem_cons.mpr ⟨s_iconst F (n := 3) (by decide +kernel) (by decide +kernel),
    List.forall_mem_cons.mpr ⟨s_iadd F (by decide +kernel),
    List.forall_mem_cons.mpr ⟨s_icmp_eq F (off := 386) (by decide) (by decide +kernel),
    List.forall_mem_cons.mpr ⟨s_iconst F (n := 0) (by decide +kernel) (by decide +kernel),
    (fun _ h => absurd h List.not_mem_nil)⟩⟩⟩⟩⟩⟩⟩⟩⟩⟩⟩⟩⟩⟩⟩⟩⟩⟩⟩⟩⟩⟩⟩⟩⟩⟩⟩⟩
def tb_L_8 : List (Nat × Op) := [(392, o_aload 1 1), (393, o_aload 0 1), (394, o_iload 3 1), (395, o_push (.int 1) 1), (396, o_iadd), (401, o_aload 2 1), (402, o_aload 0 1), (403, o_iload 3 1), (404, o_push (.int 1) 1), (405, o_iadd), (410, o_icmp_eq 773), (413, o_push (.int 0) 1)]
set_option maxRecDepth 20000 in
set_option maxHeartbeats 4000000 in
theorem sn_L_8 {x : Cx} {nm : String} {d : Nat} (F : Fx x cL_law 4 RL nm (some .boolean) d) : ∀ q ∈ tb_L_8, Snd x 4 q :=
  List.forall_mem_cons.mpr ⟨s_aload_n F (a := 1) rfl (by decide +kernel),
    List.forall_mem_cons.mpr ⟨s_aload_n F (a := 0) rfl (by decide +kernel),
    List.forall_mem_cons.mpr ⟨s_iload_n F (a := 3) rfl (by decide +kernel),
    List.forall_mem_cons.mpr ⟨s_iconst F (n := 1) (by decide +kernel) (by decide +kernel),
    List.forall_mem_cons.mpr ⟨s_iadd F (by decide +kernel),
    List.forall_mem_cons.mpr ⟨s_aload_n F (a := 2) rfl (by decide +kernel),
    List.forall_mem_cons.mpr ⟨s_aload_n F (a := 0) rfl (by decide +kernel),
    List.forall_mem_cons.mpr ⟨s_iload_n F (a := 3) rfl (by decide +kernel),
    List.forall_mem_cons.mpr ⟨s_iconst F (n := 1) (by decide +kernel) (by decide +kernel),
    List.forall_mem_cons.mpr ⟨s_iadd F (by decide +kernel),
    List.forall_mem_cons.mpr ⟨s_icmp_eq F (off := 363) (by decide) (by decide +kernel),
    List.forall_mem_cons.mpr ⟨s_iconst F (n := 0) (by decide +kernel) (by decide +kernel),
    (fun _ h => absurd h List.not_mem_nil)⟩⟩⟩⟩⟩⟩⟩⟩⟩⟩⟩⟩
def tb_L_9 : List (Nat × Op) := [(415, o_aload 1 1), (416, o_aload 0 1), (417, o_iload 3 1), (418, o_push (.int 1) 1), (419, o_iadd), (424, o_aload 2 1), (425, o_aload 0 1), (426, o_iload 3 1), (427, o_push (.int 1) 1), (428, o_iadd), (433, o_icmp_eq 773), (436, o_push (.int 0) 1)]
set_option maxRecDepth 20000 in
set_option maxHeartbeats 4000000 in
theorem sn_L_9 {x : Cx} {nm : String} {d : Nat} (F : Fx x cL_law 4 RL nm (some .boolean) d) : ∀ q ∈ tb_L_9, Snd x 4 q :=
  List.forall_mem_cons.mpr ⟨s_aload_n F (a := 1) rfl (by decide +kernel),
    List.forall_mem_cons.mpr ⟨s_aload_n F (a := 0) rfl (by decide +kernel),
    List.forall_mem_cons.mpr ⟨s_iload_n F (a := 3) rfl (by decide +kernel),
    List.forall_mem_cons.mpr ⟨s_iconst F (n := 1) (by decide +kernel) (by decide +kernel),
    List.forall_mem_cons.mpr ⟨s_iadd F (by decide +kernel),
    List.forall_mem_cons.mpr ⟨s_aload_n F (a := 2) rfl (by decide +kernel),
    List.forall_mem_cons.mpr ⟨s_aload_n F (a := 0) rfl (by decide +kernel),
    List.forall_mem_cons.mpr ⟨s_iload_n F (a := 3) rfl (by decide +kernel),
    List.forall_mem_cons.mpr ⟨s_iconst F (n := 1) (by decide +kernel) (by decide +kernel),
    List.forall_mem_cons.mpr ⟨s_iadd F (by decide +kernel),
    List.forall_mem_cons.mpr ⟨s_icmp_eq F (off := 340) (by decide) (by decide +kernel),
    List.forall_mem_cons.mpr ⟨s_iconst F (n := 0) (by decide +kernel) (by decide +kernel),
    (fun _ h => absurd h List.not_mem_nil)⟩⟩⟩⟩⟩⟩⟩⟩⟩⟩⟩⟩
def tb_L_10 : List (Nat × Op) := [(438, o_aload 1 1), (442, o_aload 2 1), (446, o_icmp_eq 773), (449, o_push (.int 0) 1)]
set_option maxRecDepth 20000 in
set_option maxHeartbeats 4000000 in
theorem sn_L_10 {x : Cx} {nm : String} {d : Nat} (F : Fx x cL_law 4 RL nm (some .boolean) d) : ∀ q ∈ tb_L_10, Snd x 4 q :=
  List.forall_mem_cons.mpr ⟨s_aload_n F (a := 1) rfl (by decide +kernel),
    List.forall_mem_cons.mpr ⟨s_aload_n F (a := 2) rfl (by decide +kernel),
    List.forall_mem_cons.mpr ⟨s_icmp_eq F (off := 327) (by decide) (by decide +kernel),
    List.forall_mem_cons.mpr ⟨s_iconst F (n := 0) (by decide +kernel) (by decide +kernel),
    (fun _ h => absurd h List.not_mem_nil)⟩⟩⟩⟩
def tb_L_11 : List (Nat × Op) := [(451, o_aload 1 1), (452, o_aload 0 1), (453, o_iload 3 1), (454, o_push (.int 1) 1), (455, o_iadd), (457, o_aload 0 1), (458, o_iload 3 1), (459, o_push (.int 2) 1), (460, o_iadd), (465, o_aload 2 1), (466, o_aload 0 1), (467, o_iload 3 1), (468, o_push (.int 1) 1), (469, o_iadd), (471, o_aload 0 1), (472, o_iload 3 1), (473, o_push (.int 2) 1), (474, o_iadd), (479, o_icmp_eq 773), (482, o_push (.int 0) 1)]
set_option maxRecDepth 20000 in
set_option maxHeartbeats 4000000 in
theorem sn_L_11 {x : Cx} {nm : String} {d : Nat} (F : Fx x cL_law 4 RL nm (some .boolean) d) : ∀ q ∈ tb_L_11, Snd x 4 q :=
  List.forall_mem_cons.mpr ⟨s_aload_n F (a := 1) rfl (by decide +kernel),
    List.forall_mem_cons.mpr ⟨s_aload_n F (a := 0) rfl (by decide +kernel),
    List.forall_mem_cons.mpr ⟨s_iload_n F (a := 3) rfl (by decide +kernel),
    List.forall_mem_cons.mpr ⟨s_iconst F (n := 1) (by decide +kernel) (by decide +kernel),
    List.forall_mem_cons.mpr ⟨s_iadd F (by decide +kernel),
    List.forall_mem_cons.mpr ⟨s_aload_n F (a := 0) rfl (by decide +kernel),
    List.forall_mem_cons.mpr ⟨s_iload_n F (a := 3) rfl (by decide +kernel),
    List.forall_mem_cons.mpr ⟨s_iconst F (n := 2) (by decide +kernel) (by decide +kernel),
    List.forall_mem_cons.mpr ⟨s_iadd F (by decide +kernel),
    List.forall_mem_cons.mpr ⟨s_aload_n F (a := 2) rfl (by decide +kernel),
    List.forall_mem_cons.mpr ⟨s_aload_n F (a := 0) rfl (by decide +kernel),
    List.forall_mem_cons.mpr ⟨s_iload_n F (a := 3) rfl (by decide +kernel),
    List.forall_mem_cons.mpr ⟨s_iconst F (n := 1) (by decide +kernel) (by decide +kernel),
    List.forall_mem_cons.mpr ⟨s_iadd F (by decide +kernel),
    List.forall_mem_cons.mpr ⟨s_aload_n F (a := 0) rfl (by decide +kernel),
    List.forall_mem_cons.mpr ⟨s_iload_n F (a := 3) rfl (by decide +kernel),
    List.forall_mem_cons.mpr ⟨s_iconst F (n := 2) (by decide +kernel) (by decide +kernel),
    List.forall_mem_cons.mpr ⟨s_iadd F (by decide +kernel),
    List.forall_mem_cons.mpr ⟨s_icmp_eq F (off := 294) (by decide) (by decide +kernel),
    List.forall_mem_cons.mpr ⟨s_iconst F (n := 0) (by decide +kernel) (by decide +kernel),
    (fun _ h => absurd h List.not_mem_nil)⟩⟩⟩⟩⟩⟩⟩⟩⟩⟩⟩⟩⟩⟩⟩⟩⟩⟩⟩⟩
def tb_L_12 : List (Nat × Op) := [(484, o_aload 1 1), (488, o_aload 2 1), (492, o_icmp_eq 773), (495, o_push (.int 0) 1)]
set_option maxRecDepth 20000 in
set_option maxHeartbeats 4000000 in
theorem sn_L_12 {x : Cx} {nm : String} {d : Nat} (F : Fx x cL_law 4 RL nm (some .boolean) d) : ∀ q ∈ tb_L_12, Snd x 4 q :=
  List.forall_mem_cons.mpr ⟨s_aload_n F (a := 1) rfl (by decide +kernel),
    List.forall_mem_cons.mpr ⟨s_aload_n F (a := 2) rfl (by decide +kernel),
    List.forall_mem_cons.mpr ⟨s_icmp_eq F (off := 281) (by decide) (by decide +kernel),
    List.forall_mem_cons.mpr ⟨s_iconst F (n := 0) (by decide +kernel) (by decide +kernel),
    (fun _ h => absurd h List.not_mem_nil)⟩⟩⟩⟩
def tb_L_13 : List (Nat × Op) := [(497, o_aload 1 1), (498, o_aload 0 1), (499, o_iload 3 1), (500, o_push (.int 1) 1), (501, o_iadd), (506, o_aload 2 1), (507, o_aload 0 1), (508, o_iload 3 1), (509, o_push (.int 1) 1), (510, o_iadd), (515, o_icmp_eq 773), (518, o_push (.int 0) 1)]
set_option maxRecDepth 20000 in
set_option maxHeartbeats 4000000 in
theorem sn_L_13 {x : Cx} {nm : String} {d : Nat} (F : Fx x cL_law 4 RL nm (some .boolean) d) : ∀ q ∈ tb_L_13, Snd x 4 q :=
  List.forall_mem_cons.mpr ⟨s_aload_n F (a := 1) rfl (by decide +kernel),
    List.forall_mem_cons.mpr ⟨s_aload_n F (a := 0) rfl (by decide +kernel),
    List.forall_mem_cons.mpr ⟨s_iload_n F (a := 3) rfl (by decide +kernel),
    List.forall_mem_cons.mpr ⟨s_iconst F (n := 1) (by decide +kernel) (by decide +kernel),
    List.forall_mem_cons.mpr ⟨s_iadd F (by decide +kernel),
    List.forall_mem_cons.mpr ⟨s_aload_n F (a := 2) rfl (by decide +kernel),
    List.forall_mem_cons.mpr ⟨s_aload_n F (a := 0) rfl (by decide +kernel),
    List.forall_mem_cons.mpr ⟨s_iload_n F (a := 3) rfl (by decide +kernel),
    List.forall_mem_cons.mpr ⟨s_iconst F (n := 1) (by decide +kernel) (by decide +kernel),
    List.forall_mem_cons.mpr ⟨s_iadd F (by decide +kernel),
    List.forall_mem_cons.mpr ⟨s_icmp_eq F (off := 258) (by decide) (by decide +kernel),
    List.forall_mem_cons.mpr ⟨s_iconst F (n := 0) (by decide +kernel) (by decide +kernel),
    (fun _ h => absurd h List.not_mem_nil)⟩⟩⟩⟩⟩⟩⟩⟩⟩⟩⟩⟩
def tb_L_14 : List (Nat × Op) := [(520, o_aload 1 1), (524, o_aload 2 1), (528, o_icmp_eq 773), (531, o_push (.int 0) 1)]
set_option maxRecDepth 20000 in
set_option maxHeartbeats 4000000 in
theorem sn_L_14 {x : Cx} {nm : String} {d : Nat} (F : Fx x cL_law 4 RL nm (some .boolean) d) : ∀ q ∈ tb_L_14, Snd x 4 q :=
  List.forall_mem_cons.mpr ⟨s_aload_n F (a := 1) rfl (by decide +kernel),
    List.forall_mem_cons.mpr ⟨s_aload_n F (a := 2) rfl (by decide +kernel),
    List.forall_mem_cons.mpr ⟨s_icmp_eq F (off := 245) (by decide) (by decide +kernel),
    List.forall_mem_cons.mpr ⟨s_iconst F (n := 0) (by decide +kernel) (by decide +kernel),
    (fun _ h => absurd h List.not_mem_nil)⟩⟩⟩⟩
def tb_L_15 : List (Nat × Op) := [(533, o_aload 1 1), (534, o_aload 0 1), (535, o_iload 3 1), (536, o_push (.int 1) 1), (537, o_iadd), (539, o_aload 0 1), (540, o_iload 3 1), (541, o_push (.int 2) 1), (542, o_iadd), (547, o_aload 2 1), (548, o_aload 0 1), (549, o_iload 3 1), (550, o_push (.int 1) 1), (551, o_iadd), (553, o_aload 0 1), (554, o_iload 3 1), (555, o_push (.int 2) 1), (556, o_iadd), (561, o_icmp_eq 773), (564, o_push (.int 0) 1)]
set_option maxRecDepth 20000 in
set_option maxHeartbeats 4000000 in
theorem sn_L_15 {x : Cx} {nm : String} {d : Nat} (F : Fx x cL_law 4 RL nm (some .boolean) d) : ∀ q ∈ tb_L_15, Snd x 4 q :=
  List.forall_mem_cons.mpr ⟨s_aload_n F (a := 1) rfl (by decide +kernel),
    List.forall_mem_cons.mpr ⟨s_aload_n F (a := 0) rfl (by decide +kernel),
    List.forall_mem_cons.mpr ⟨s_iload_n F (a := 3) rfl (by decide +kernel),
    List.forall_mem_cons.mpr ⟨s_iconst F (n := 1) (by decide +kernel) (by decide +kernel),
    List.forall_mem_cons.mpr ⟨s_iadd F (by decide +kernel),
    List.forall_mem_cons.mpr ⟨s_aload_n F (a := 0) rfl (by decide +kernel),
    List.forall_mem_cons.mpr ⟨s_iload_n F (a := 3) rfl (by decide +kernel),
    List.forall_mem_cons.mpr ⟨s_iconst F (n := 2) (by decide +kernel) (by decide +kernel),
    List.forall_mem_cons.mpr ⟨s_iadd F (by decide +kernel),
    List.forall_mem_cons.mpr ⟨s_aload_n F (a := 2) rfl (by decide +kernel),
    List.forall_mem_cons.mpr ⟨s_aload_n F (a := 0) rfl (by decide +kernel),
    List.forall_mem_cons.mpr ⟨s_iload_n F (a := 3) rfl (by decide +kernel),
    List.forall_mem_cons.mpr ⟨s_iconst F (n := 1) (by decide +kernel) (by decide +kernel),
    List.forall_mem_cons.mpr ⟨s_iadd F (by decide +kernel),
    List.forall_mem_cons.mpr ⟨s_aload_n F (a := 0) rfl (by decide +kernel),
    List.forall_mem_cons.mpr ⟨s_iload_n F (a := 3) rfl (by decide +kernel),
    List.forall_mem_cons.mpr ⟨s_iconst F (n := 2) (by decide +kernel) (by decide +kernel),
    List.forall_mem_cons.mpr ⟨s_iadd F (by decide +kernel),
    List.forall_mem_cons.mpr ⟨s_icmp_eq F (off := 212) (by decide) (by decide +kernel),
    List.forall_mem_cons.mpr ⟨s_iconst F (n := 0) (by decide +kernel) (by decide +kernel),
    (fun _ h => absurd h List.not_mem_nil)⟩⟩⟩⟩⟩⟩⟩⟩⟩⟩⟩⟩⟩⟩⟩⟩⟩⟩⟩⟩
def tb_L_16 : List (Nat × Op) := [(566, o_aload 1 1), (567, o_aload 0 1), (568, o_iload 3 1), (569, o_push (.int 1) 1), (570, o_iadd), (575, o_aload 2 1), (576, o_aload 0 1), (577, o_iload 3 1), (578, o_push (.int 1) 1), (579, o_iadd), (584, o_icmp_eq 773), (587, o_push (.int 0) 1)]
set_option maxRecDepth 20000 in
set_option maxHeartbeats 4000000 in
theorem sn_L_16 {x : Cx} {nm : String} {d : Nat} (F : Fx x cL_law 4 RL nm (some .boolean) d) : ∀ q ∈ tb_L_16, Snd x 4 q :=
  List.forall_mem_cons.mpr ⟨s_aload_n F (a := 1) rfl (by decide +kernel),
    List.forall_mem_cons.mpr ⟨s_aload_n F (a := 0) rfl (by decide +kernel),
    List.forall_mem_cons.mpr ⟨s_iload_n F (a := 3) rfl (by decide +kernel),
    List.forall_mem_cons.mpr ⟨s_iconst F (n := 1) (by decide +kernel) (by decide +kernel),
    List.forall_mem_cons.mpr ⟨s_iadd F (by decide +kernel),
    List.forall_mem_cons.mpr ⟨s_aload_n F (a := 2) rfl (by decide +kernel),
    List.forall_mem_cons.mpr ⟨s_aload_n F (a := 0) rfl (by decide +kernel),
    List.forall_mem_cons.mpr ⟨s_iload_n F (a := 3) rfl (by decide +kernel),
    List.forall_mem_cons.mpr ⟨s_iconst F (n := 1) (by decide +kernel) (by decide +kernel),
    List.forall_mem_cons.mpr ⟨s_iadd F (by decide +kernel),
    List.forall_mem_cons.mpr ⟨s_icmp_eq F (off := 189) (by decide) (by decide +kernel),
    List.forall_mem_cons.mpr ⟨s_iconst F (n := 0) (by decide +kernel) (by decide +kernel),
    (fun _ h => absurd h List.not_mem_nil)⟩⟩⟩⟩⟩⟩⟩⟩⟩⟩⟩⟩
def tb_L_17 : List (Nat × Op) := [(589, o_aload 1 1), (590, o_aload 0 1), (591, o_iload 3 1), (592, o_push (.int 1) 1), (593, o_iadd), (595, o_aload 0 1), (596, o_iload 3 1), (597, o_push (.int 2) 1), (598, o_iadd), (603, o_aload 2 1), (604, o_aload 0 1), (605, o_iload 3 1), (606, o_push (.int 1) 1), (607, o_iadd), (609, o_aload 0 1), (610, o_iload 3 1), (611, o_push (.int 2) 1), (612, o_iadd), (617, o_icmp_eq 773), (620, o_push (.int 0) 1)]
set_option maxRecDepth 20000 in
set_option maxHeartbeats 4000000 in
theorem sn_L_17 {x : Cx} {nm : String} {d : Nat} (F : Fx x cL_law 4 RL nm (some .boolean) d) : ∀ q ∈ tb_L_17, Snd x 4 q :=
  List.forall_mem_cons.mpr ⟨s_aload_n F (a := 1) rfl (by decide +kernel),
    List.forall_mem_cons.mpr ⟨s_aload_n F (a := 0) rfl (by decide +kernel),
    List.forall_mem_cons.mpr ⟨s_iload_n F (a := 3) rfl (by decide +kernel),
    List.forall_mem_cons.mpr ⟨s_iconst F (n := 1) (by decide +kernel) (by decide +kernel),
    List.forall_mem_cons.mpr ⟨s_iadd F (by decide +kernel),
    List.forall_mem_cons.mpr ⟨s_aload_n F (a := 0) rfl (by decide +kernel),
    List.forall_mem_cons.mpr ⟨s_iload_n F (a := 3) rfl (by decide +kernel),
    List.forall_mem_cons.mpr ⟨s_iconst F (n := 2) (by decide +kernel) (by decide +kernel),
    List.forall_mem_cons.mpr ⟨s_iadd F (by decide +kernel),
    List.forall_mem_cons.mpr ⟨s_aload_n F (a := 2) rfl (by decide +kernel),
    List.forall_mem_cons.mpr ⟨s_aload_n F (a := 0) rfl (by decide +kernel),
    List.forall_mem_cons.mpr ⟨s_iload_n F (a := 3) rfl (by decide +kernel),
    List.forall_mem_cons.mpr ⟨s_iconst F (n := 1) (by decide +kernel) (by decide +kernel),
    List.forall_mem_cons.mpr ⟨s_iadd F (by decide +kernel),
    List.forall_mem_cons.mpr ⟨s_aload_n F (a := 0) rfl (by decide +kernel),
    List.forall_mem_cons.mpr ⟨s_iload_n F (a := 3) rfl (by decide +kernel),
    List.forall_mem_cons.mpr ⟨s_iconst F (n := 2) (by decide +kernel) (by decide +kernel),
    List.forall_mem_cons.mpr ⟨s_iadd F (by decide +kernel),
    List.forall_mem_cons.mpr ⟨s_icmp_eq F (off := 156) (by decide) (by decide +kernel),
    List.forall_mem_cons.mpr ⟨s_iconst F (n := 0) (by decide +kernel) (by decide +kernel),
    (fun _ h => absurd h List.not_mem_nil)⟩⟩⟩⟩⟩⟩⟩⟩⟩⟩⟩⟩⟩⟩⟩⟩⟩⟩⟩⟩
def tb_L_18 : List (Nat × Op) := [(622, o_aload 1 1), (623, o_aload 0 1), (624, o_iload 3 1), (625, o_push (.int 1) 1), (626, o_iadd), (628, o_aload 0 1), (629, o_iload 3 1), (630, o_push (.int 2) 1), (631, o_iadd), (636, o_aload 2 1), (637, o_aload 0 1), (638, o_iload 3 1), (639, o_push (.int 1) 1), (640, o_iadd), (642, o_aload 0 1), (643, o_iload 3 1), (644, o_push (.int 2) 1), (645, o_iadd), (650, o_icmp_eq 773), (653, o_push (.int 0) 1)]
set_option maxRecDepth 20000 in
set_option maxHeartbeats 4000000 in
theorem sn_L_18 {x : Cx} {nm : String} {d : Nat} (F : Fx x cL_law 4 RL nm (some .boolean) d) : ∀ q ∈ tb_L_18, Snd x 4 q :=
  List.forall_mem_cons.mpr ⟨s_aload_n F (a := 1) rfl (by decide +kernel),
    List.forall_mem_cons.mpr ⟨s_aload_n F (a := 0) rfl (by decide +kernel),
    List.forall_mem_cons.mpr ⟨s_iload_n F (a := 3) rfl (by decide +kernel),
    List.forall_mem_cons.mpr ⟨s_iconst F (n := 1) (by decide +kernel) (by decide +kernel),
    List.forall_mem_cons.mpr ⟨s_iadd F (by decide +kernel),
    List.forall_mem_cons.mpr ⟨s_aload_n F (a := 0) rfl (by decide +kernel),
    List.forall_mem_cons.mpr ⟨s_iload_n F (a := 3) rfl (by decide +kernel),
    List.forall_mem_cons.mpr ⟨s_iconst F (n := 2) (by decide +kernel) (by decide +kernel),
    List.forall_mem_cons.mpr ⟨s_iadd F (by decide +kernel),
    List.forall_mem_cons.mpr ⟨s_aload_n F (a := 2) rfl (by decide +kernel),
    List.forall_mem_cons.mpr ⟨s_aload_n F (a := 0) rfl (by decide +kernel),
    List.forall_mem_cons.mpr ⟨s_iload_n F (a := 3) rfl (by decide +kernel),
    List.forall_mem_cons.mpr ⟨s_iconst F (n := 1) (by decide +kernel) (by decide +kernel),
    List.forall_mem_cons.mpr ⟨s_iadd F (by decide +kernel),
    List.forall_mem_cons.mpr ⟨s_aload_n F (a := 0) rfl (by decide +kernel),
    List.forall_mem_cons.mpr ⟨s_iload_n F (a := 3) rfl (by decide +kernel),
    List.forall_mem_cons.mpr ⟨s_iconst F (n := 2) (by decide +kernel) (by decide +kernel),
    List.forall_mem_cons.mpr ⟨s_iadd F (by decide +kernel),
    List.forall_mem_cons.mpr ⟨s_icmp_eq F (off := 123) (by decide) (by decide +kernel),
    List.forall_mem_cons.mpr ⟨s_iconst F (n := 0) (by decide +kernel) (by decide +kernel),
    (fun _ h => absurd h List.not_mem_nil)⟩⟩⟩⟩⟩⟩⟩⟩⟩⟩⟩⟩⟩⟩⟩⟩⟩⟩⟩⟩
def tb_L_19 : List (Nat × Op) := [(655, o_aload 1 1), (659, o_aload 2 1), (663, o_icmp_eq 773), (666, o_push (.int 0) 1)]
set_option maxRecDepth 20000 in
set_option maxHeartbeats 4000000 in
theorem sn_L_19 {x : Cx} {nm : String} {d : Nat} (F : Fx x cL_law 4 RL nm (some .boolean) d) : ∀ q ∈ tb_L_19, Snd x 4 q :=
  List.forall_mem_cons.mpr ⟨s_aload_n F (a := 1) rfl (by decide +kernel),
    List.forall_mem_cons.mpr ⟨s_aload_n F (a := 2) rfl (by decide +kernel),
    List.forall_mem_cons.mpr ⟨s_icmp_eq F (off := 110) (by decide) (by decide +kernel),
    List.forall_mem_cons.mpr ⟨s_iconst F (n := 0) (by decide +kernel) (by decide +kernel),
    (fun _ h => absurd h List.not_mem_nil)⟩⟩⟩⟩
def tb_L_20 : List (Nat × Op) := [(668, o_aload 1 1), (672, o_aload 2 1), (676, o_icmp_eq 773), (679, o_push (.int 0) 1)]
set_option maxRecDepth 20000 in
set_option maxHeartbeats 4000000 in
theorem sn_L_20 {x : Cx} {nm : String} {d : Nat} (F : Fx x cL_law 4 RL nm (some .boolean) d) : ∀ q ∈ tb_L_20, Snd x 4 q :=
  List.forall_mem_cons.mpr ⟨s_aload_n F (a := 1) rfl (by decide +kernel),
    List.forall_mem_cons.mpr ⟨s_aload_n F (a := 2) rfl (by decide +kernel),
    List.forall_mem_cons.mpr ⟨s_icmp_eq F (off := 97) (by decide) (by decide +kernel),
    List.forall_mem_cons.mpr ⟨s_iconst F (n := 0) (by decide +kernel) (by decide +kernel),
    (fun _ h => absurd h List.not_mem_nil)⟩⟩⟩⟩
def tb_L_21 : List (Nat × Op) := [(681, o_aload 1 1), (682, o_aload 0 1), (683, o_iload 3 1), (684, o_push (.int 1) 1), (685, o_iadd), (690, o_aload 2 1), (691, o_aload 0 1), (692, o_iload 3 1), (693, o_push (.int 1) 1), (694, o_iadd), (699, o_icmp_eq 773), (702, o_push (.int 0) 1)]
set_option maxRecDepth 20000 in
set_option maxHeartbeats 4000000 in
theorem sn_L_21 {x : Cx} {nm : String} {d : Nat} (F : Fx x cL_law 4 RL nm (some .boolean) d) : ∀ q ∈ tb_L_21, Snd x 4 q :=
  List.forall_mem_cons.mpr ⟨s_aload_n F (a := 1) rfl (by decide +kernel),
    List.forall_mem_cons.mpr ⟨s_aload_n F (a := 0) rfl (by decide +kernel),
    List.forall_mem_cons.mpr ⟨s_iload_n F (a := 3) rfl (by decide +kernel),
    List.forall_mem_cons.mpr ⟨s_iconst F (n := 1) (by decide +kernel) (by decide +kernel),
    List.forall_mem_cons.mpr ⟨s_iadd F (by decide +kernel),
    List.forall_mem_cons.mpr ⟨s_aload_n F (a := 2) rfl (by decide +kernel),
    List.forall_mem_cons.mpr ⟨s_aload_n F (a := 0) rfl (by decide +kernel),
    List.forall_mem_cons.mpr ⟨s_iload_n F (a := 3) rfl (by decide +kernel),
    List.forall_mem_cons.mpr ⟨s_iconst F (n := 1) (by decide +kernel) (by decide +kernel),
    List.forall_mem_cons.mpr ⟨s_iadd F (by decide +kernel),
    List.forall_mem_cons.mpr ⟨s_icmp_eq F (off := 74) (by decide) (by decide +kernel),
    List.forall_mem_cons.mpr ⟨s_iconst F (n := 0) (by decide +kernel) (by decide +kernel),
    (fun _ h => absurd h List.not_mem_nil)⟩⟩⟩⟩⟩⟩⟩⟩⟩⟩⟩⟩
def tb_L_22 : List (Nat × Op) := [(704, o_aload 1 1), (705, o_aload 0 1), (706, o_iload 3 1), (707, o_push (.int 1) 1), (708, o_iadd), (713, o_aload 2 1), (714, o_aload 0 1), (715, o_iload 3 1), (716, o_push (.int 1) 1), (717, o_iadd), (722, o_icmp_eq 773), (725, o_push (.int 0) 1)]
set_option maxRecDepth 20000 in
set_option maxHeartbeats 4000000 in
theorem sn_L_22 {x : Cx} {nm : String} {d : Nat} (F : Fx x cL_law 4 RL nm (some .boolean) d) : ∀ q ∈ tb_L_22, Snd x 4 q :=
  List.forall_mem_cons.mpr ⟨s_aload_n F (a := 1) rfl (by decide +kernel),
    List.forall_mem_cons.mpr ⟨s_aload_n F (a := 0) rfl (by decide +kernel),
    List.forall_mem_cons.mpr ⟨s_iload_n F (a := 3) rfl (by decide +kernel),
    List.forall_mem_cons.mpr ⟨s_iconst F (n := 1) (by decide +kernel) (by decide +kernel),
    List.forall_mem_cons.mpr ⟨s_iadd F (by decide +kernel),
    List.forall_mem_cons.mpr ⟨s_aload_n F (a := 2) rfl (by decide +kernel),
    List.forall_mem_cons.mpr ⟨s_aload_n F (a := 0) rfl (by decide +kernel),
    List.forall_mem_cons.mpr ⟨s_iload_n F (a := 3) rfl (by decide +kernel),
    List.forall_mem_cons.mpr ⟨s_iconst F (n := 1) (by decide +kernel) (by decide +kernel),
    List.forall_mem_cons.mpr ⟨s_iadd F (by decide +kernel),
    List.forall_mem_cons.mpr ⟨s_icmp_eq F (off := 51) (by decide) (by decide +kernel),
    List.forall_mem_cons.mpr ⟨s_iconst F (n := 0) (by decide +kernel) (by decide +kernel),
    (fun _ h => absurd h List.not_mem_nil)⟩⟩⟩⟩⟩⟩⟩⟩⟩⟩⟩⟩
def tb_L_23 : List (Nat × Op) := [(727, o_aload 1 1), (728, o_aload 0 1), (729, o_iload 3 1), (730, o_push (.int 1) 1), (731, o_iadd), (736, o_aload 2 1), (737, o_aload 0 1), (738, o_iload 3 1), (739, o_push (.int 1) 1), (740, o_iadd), (745, o_icmp_eq 773), (748, o_push (.int 0) 1)]
set_option maxRecDepth 20000 in
set_option maxHeartbeats 4000000 in
theorem sn_L_23 {x : Cx} {nm : String} {d : Nat} (F : Fx x cL_law 4 RL nm (some .boolean) d) : ∀ q ∈ tb_L_23, Snd x 4 q :=
  List.forall_mem_cons.mpr ⟨s_aload_n F (a := 1) rfl (by decide +kernel),
    List.forall_mem_cons.mpr ⟨s_aload_n F (a := 0) rfl (by decide +kernel),
    List.forall_mem_cons.mpr ⟨s_iload_n F (a := 3) rfl (by decide +kernel),
    List.forall_mem_cons.mpr ⟨s_iconst F (n := 1) (by decide +kernel) (by decide +kernel),
    List.forall_mem_cons.mpr ⟨s_iadd F (by decide +kernel),
    List.forall_mem_cons.mpr ⟨s_aload_n F (a := 2) rfl (by decide +kernel),
    List.forall_mem_cons.mpr ⟨s_aload_n F (a := 0) rfl (by decide +kernel),
    List.forall_mem_cons.mpr ⟨s_iload_n F (a := 3) rfl (by decide +kernel),
    List.forall_mem_cons.mpr ⟨s_iconst F (n := 1) (by decide +kernel) (by decide +kernel),
    List.forall_mem_cons.mpr ⟨s_iadd F (by decide +kernel),
    List.forall_mem_cons.mpr ⟨s_icmp_eq F (off := 28) (by decide) (by decide +kernel),
    List.forall_mem_cons.mpr ⟨s_iconst F (n := 0) (by decide +kernel) (by decide +kernel),
    (fun _ h => absurd h List.not_mem_nil)⟩⟩⟩⟩⟩⟩⟩⟩⟩⟩⟩⟩
def tb_L_24 : List (Nat × Op) := [(750, o_aload 1 1), (751, o_aload 0 1), (752, o_iload 3 1), (753, o_push (.int 1) 1), (754, o_iadd), (759, o_aload 2 1), (760, o_aload 0 1), (761, o_iload 3 1), (762, o_push (.int 1) 1), (763, o_iadd), (768, o_icmp_eq 773), (771, o_push (.int 0) 1)]
set_option maxRecDepth 20000 in
set_option maxHeartbeats 4000000 in
theorem sn_L_24 {x : Cx} {nm : String} {d : Nat} (F : Fx x cL_law 4 RL nm (some .boolean) d) : ∀ q ∈ tb_L_24, Snd x 4 q :=
  List.forall_mem_cons.mpr ⟨s_aload_n F (a := 1) rfl (by decide +kernel),
    List.forall_mem_cons.mpr ⟨s_aload_n F (a := 0) rfl (by decide +kernel),
    List.forall_mem_cons.mpr ⟨s_iload_n F (a := 3) rfl (by decide +kernel),
    List.forall_mem_cons.mpr ⟨s_iconst F (n := 1) (by decide +kernel) (by decide +kernel),
    List.forall_mem_cons.mpr ⟨s_iadd F (by decide +kernel),
    List.forall_mem_cons.mpr ⟨s_aload_n F (a := 2) rfl (by decide +kernel),
    List.forall_mem_cons.mpr ⟨s_aload_n F (a := 0) rfl (by decide +kernel),
    List.forall_mem_cons.mpr ⟨s_iload_n F (a := 3) rfl (by decide +kernel),
    List.forall_mem_cons.mpr ⟨s_iconst F (n := 1) (by decide +kernel) (by decide +kernel),
    List.forall_mem_cons.mpr ⟨s_iadd F (by decide +kernel),
    List.forall_mem_cons.mpr ⟨s_icmp_eq F (off := 5) (by decide) (by decide +kernel),
    List.forall_mem_cons.mpr ⟨s_iconst F (n := 0) (by decide +kernel) (by decide +kernel),
    (fun _ h => absurd h List.not_mem_nil)⟩⟩⟩⟩⟩⟩⟩⟩⟩⟩⟩⟩
