abbrev mk_X6_feed : Mk := (yX6_feed, cX6_feed, 4, (some .int))
def tb_X6_feed : List (Nat × Op) := [(0, o_iload 1 1), (1, o_push (.int 1) 1), (2, o_icmp_lt 11), (5, o_iload 1 1), (6, o_push (.int 8) 2), (8, o_icmp_le 14), (11, o_push (.int (-1000000002)) 2), (14, o_aload 0 1), (15, o_getf 6 1), (18, o_iload 1 1), (19, o_lload 2 1), (23, o_if_eq 36), (26, o_aload 0 1), (27, o_getf 6 1), (30, o_getf 4 1), (33, o_goto 38), (36, o_push (.int (-1000000004)) 2)]
set_option maxRecDepth 20000 in
set_option maxHeartbeats 4000000 in
theorem sn_X6_feed {x : Cx} {d : Nat} (F : Fx x cX6_feed 4 RX6 yX6_feed.name (some .int) d) : ∀ q ∈ tb_X6_feed, Snd x 4 q :=
  List.forall_mem_cons.mpr ⟨s_iload_n F (a := 1) rfl (by decide +kernel),
    List.forall_mem_cons.mpr ⟨s_iconst F (n := 1) (by decide +kernel) (by decide +kernel),
    List.forall_mem_cons.mpr ⟨s_icmp_lt F (off := 9) (by decide) (by decide +kernel),
    List.forall_mem_cons.mpr ⟨s_iload_n F (a := 1) rfl (by decide +kernel),
    List.forall_mem_cons.mpr ⟨s_bipush F (n := 8) (by decide +kernel) (by decide +kernel),
    List.forall_mem_cons.mpr ⟨s_icmp_le F (off := 6) (by decide) (by decide +kernel),
    List.forall_mem_cons.mpr ⟨s_ldc F (i := 60) (aw2 59 (by decide +kernel) rfl) (by decide +kernel),
    List.forall_mem_cons.mpr ⟨s_aload_n F (a := 0) rfl (by decide +kernel),
    List.forall_mem_cons.mpr ⟨s_getf F (C := RX6) (T := TX6) (N := 9) (i := 19) inX6 rfl 1 (by decide) (aw2 28 (by decide +kernel) rfl) rfl (by decide +kernel),
    List.forall_mem_cons.mpr ⟨s_iload_n F (a := 1) rfl (by decide +kernel),
    List.forall_mem_cons.mpr ⟨s_lload_n F (a := 2) rfl (by decide +kernel),
    List.forall_mem_cons.mpr ⟨s_if_eq F (off := 13) (by decide) (by decide +kernel),
    List.forall_mem_cons.mpr ⟨s_aload_n F (a := 0) rfl (by decide +kernel),
    List.forall_mem_cons.mpr ⟨s_getf F (C := RX6) (T := TX6) (N := 9) (i := 19) inX6 rfl 1 (by decide) (aw2 28 (by decide +kernel) rfl) rfl (by decide +kernel),
    List.forall_mem_cons.mpr ⟨s_getf F (C := RX4) (T := TX4) (N := 8) (i := 65) inX4 rfl 1 (by decide) (aw1 85 (by decide +kernel) rfl) rfl (by decide +kernel),
    List.forall_mem_cons.mpr ⟨s_goto F (off := 5) (by decide) (by decide +kernel),
    List.forall_mem_cons.mpr ⟨s_ldc F (i := 69) (aw2 64 (by decide +kernel) rfl) (by decide +kernel),
    (fun _ h => absurd h List.not_mem_nil)⟩⟩⟩⟩⟩⟩⟩⟩⟩⟩⟩⟩⟩⟩⟩⟩⟩
abbrev mk_X6_chamber : Mk := (yX6_chamber, cX6_chamber, 2, (some .int))
def tb_X6_chamber : List (Nat × Op) := [(0, o_aload 0 1), (1, o_getf 6 1), (7, o_istore 1 1), (8, o_iload 1 1), (9, o_if_eq 17), (12, o_push (.int (-10)) 2), (14, o_iload 1 1), (15, o_isub), (17, o_aload 0 1), (18, o_getf 6 0), (21, o_aload 0 1), (22, o_getf 6 1), (25, o_getf 4 0), (31, o_aload 0 1), (32, o_getf 6 2), (38, o_aload 0 1), (39, o_getf 6 4), (42, o_push (.int 0) 1), (43, o_putI 3 1), (46, o_aload 0 1), (47, o_getf 6 6), (50, o_push (.int 0) 1), (51, o_putI 2 3), (54, o_aload 0 1), (55, o_push (.int 0) 1), (56, o_putI 6 8), (59, o_aload 0 1), (60, o_getf 6 0), (63, o_getf 1 3)]
set_option maxRecDepth 20000 in
set_option maxHeartbeats 4000000 in
theorem sn_X6_chamber {x : Cx} {d : Nat} (F : Fx x cX6_chamber 2 RX6 yX6_chamber.name (some .int) d) : ∀ q ∈ tb_X6_chamber, Snd x 2 q :=
  List.forall_mem_cons.mpr ⟨s_aload_n F (a := 0) rfl (by decide +kernel),
    List.forall_mem_cons.mpr ⟨s_getf F (C := RX6) (T := TX6) (N := 9) (i := 19) inX6 rfl 1 (by decide) (aw2 28 (by decide +kernel) rfl) rfl (by decide +kernel),
    List.forall_mem_cons.mpr ⟨s_istore_n F (a := 1) rfl (by decide) (by decide +kernel),
    List.forall_mem_cons.mpr ⟨s_iload_n F (a := 1) rfl (by decide +kernel),
    List.forall_mem_cons.mpr ⟨s_if_eq F (off := 8) (by decide) (by decide +kernel),
    List.forall_mem_cons.mpr ⟨s_bipush F (n := (-10)) (by decide +kernel) (by decide +kernel),
    List.forall_mem_cons.mpr ⟨s_iload_n F (a := 1) rfl (by decide +kernel),
    List.forall_mem_cons.mpr ⟨s_isub F (by decide +kernel),
    List.forall_mem_cons.mpr ⟨s_aload_n F (a := 0) rfl (by decide +kernel),
    List.forall_mem_cons.mpr ⟨s_getf F (C := RX6) (T := TX6) (N := 9) (i := 10) inX6 rfl 0 (by decide) (aw2 27 (by decide +kernel) rfl) rfl (by decide +kernel),
    List.forall_mem_cons.mpr ⟨s_aload_n F (a := 0) rfl (by decide +kernel),
    List.forall_mem_cons.mpr ⟨s_getf F (C := RX6) (T := TX6) (N := 9) (i := 19) inX6 rfl 1 (by decide) (aw2 28 (by decide +kernel) rfl) rfl (by decide +kernel),
    List.forall_mem_cons.mpr ⟨s_getf F (C := RX4) (T := TX4) (N := 8) (i := 74) inX4 rfl 0 (by decide) (aw1 83 (by decide +kernel) rfl) rfl (by decide +kernel),
    List.forall_mem_cons.mpr ⟨s_aload_n F (a := 0) rfl (by decide +kernel),
    List.forall_mem_cons.mpr ⟨s_getf F (C := RX6) (T := TX6) (N := 9) (i := 28) inX6 rfl 2 (by decide) (aw2 29 (by decide +kernel) rfl) rfl (by decide +kernel),
    List.forall_mem_cons.mpr ⟨s_aload_n F (a := 0) rfl (by decide +kernel),
    List.forall_mem_cons.mpr ⟨s_getf F (C := RX6) (T := TX6) (N := 9) (i := 38) inX6 rfl 4 (by decide) (aw2 31 (by decide +kernel) rfl) rfl (by decide +kernel),
    List.forall_mem_cons.mpr ⟨s_iconst F (n := 0) (by decide +kernel) (by decide +kernel),
    List.forall_mem_cons.mpr ⟨s_putI F (C := RX3) (T := TX3) (N := 6) (i := 83) inX3 tyX3 tyX3_ok nmX3 rfl 1 (by decide) (aw1 188 (by decide +kernel) rfl) rfl rfl rfl (by decide +kernel),
    List.forall_mem_cons.mpr ⟨s_aload_n F (a := 0) rfl (by decide +kernel),
    List.forall_mem_cons.mpr ⟨s_getf F (C := RX6) (T := TX6) (N := 9) (i := 52) inX6 rfl 6 (by decide) (aw2 33 (by decide +kernel) rfl) rfl (by decide +kernel),
    List.forall_mem_cons.mpr ⟨s_iconst F (n := 0) (by decide +kernel) (by decide +kernel),
    List.forall_mem_cons.mpr ⟨s_putI F (C := RX2) (T := TX2) (N := 7) (i := 86) inX2 tyX2 tyX2_ok nmX2 rfl 3 (by decide) (aw2 8 (by decide +kernel) rfl) rfl rfl rfl (by decide +kernel),
    List.forall_mem_cons.mpr ⟨s_aload_n F (a := 0) rfl (by decide +kernel),
    List.forall_mem_cons.mpr ⟨s_iconst F (n := 0) (by decide +kernel) (by decide +kernel),
    List.forall_mem_cons.mpr ⟨s_putI F (C := RX6) (T := TX6) (N := 9) (i := 89) inX6 tyX6 tyX6_ok nmX6 rfl 8 (by decide) (aw2 35 (by decide +kernel) rfl) rfl rfl rfl (by decide +kernel),
    List.forall_mem_cons.mpr ⟨s_aload_n F (a := 0) rfl (by decide +kernel),
    List.forall_mem_cons.mpr ⟨s_getf F (C := RX6) (T := TX6) (N := 9) (i := 10) inX6 rfl 0 (by decide) (aw2 27 (by decide +kernel) rfl) rfl (by decide +kernel),
    List.forall_mem_cons.mpr ⟨s_getf F (C := RX1) (T := TX1) (N := 8) (i := 92) inX1 rfl 3 (by decide) (aw1 40 (by decide +kernel) rfl) rfl (by decide +kernel),
    (fun _ h => absurd h List.not_mem_nil)⟩⟩⟩⟩⟩⟩⟩⟩⟩⟩⟩⟩⟩⟩⟩⟩⟩⟩⟩⟩⟩⟩⟩⟩⟩⟩⟩⟩⟩
abbrev mk_X6_fault : Mk := (yX6_fault, cX6_fault, 1, (some .int))
def tb_X6_fault : List (Nat × Op) := [(0, o_aload 0 1), (1, o_getf 6 1), (4, o_getf 4 2)]
set_option maxRecDepth 20000 in
set_option maxHeartbeats 4000000 in
theorem sn_X6_fault {x : Cx} {d : Nat} (F : Fx x cX6_fault 1 RX6 yX6_fault.name (some .int) d) : ∀ q ∈ tb_X6_fault, Snd x 1 q :=
  List.forall_mem_cons.mpr ⟨s_aload_n F (a := 0) rfl (by decide +kernel),
    List.forall_mem_cons.mpr ⟨s_getf F (C := RX6) (T := TX6) (N := 9) (i := 19) inX6 rfl 1 (by decide) (aw2 28 (by decide +kernel) rfl) rfl (by decide +kernel),
    List.forall_mem_cons.mpr ⟨s_getf F (C := RX4) (T := TX4) (N := 8) (i := 95) inX4 rfl 2 (by decide) (aw1 87 (by decide +kernel) rfl) rfl (by decide +kernel),
    (fun _ h => absurd h List.not_mem_nil)⟩⟩⟩
abbrev mk_X6_told : Mk := (yX6_told, cX6_told, 2, (some .int))
def tb_X6_told : List (Nat × Op) := [(0, o_iload 1 1), (1, o_switch 0 11 [64, 72, 80, 88, 96, 104, 112, 120, 128, 136, 144, 152] 160), (64, o_aload 0 1), (65, o_getf 6 0), (68, o_getf 1 3), (72, o_aload 0 1), (73, o_getf 6 2), (76, o_getf 5 9), (80, o_aload 0 1), (81, o_getf 6 2), (84, o_getf 5 10), (88, o_aload 0 1), (89, o_getf 6 2), (92, o_getf 5 11), (96, o_aload 0 1), (97, o_getf 6 0), (100, o_getf 1 7), (104, o_aload 0 1), (105, o_getf 6 1), (108, o_getf 4 1), (112, o_aload 0 1), (113, o_getf 6 2), (116, o_getf 5 5), (120, o_aload 0 1), (121, o_getf 6 2), (124, o_getf 5 6), (128, o_aload 0 1), (129, o_getf 6 2), (132, o_getf 5 7), (136, o_aload 0 1), (137, o_getf 6 2), (140, o_getf 5 8), (144, o_aload 0 1), (145, o_getf 6 4), (148, o_getf 3 1), (152, o_aload 0 1), (153, o_getf 6 6), (156, o_getf 2 3), (160, o_push (.int (-1000000002)) 2)]
set_option maxRecDepth 20000 in
set_option maxHeartbeats 4000000 in
theorem sn_X6_told {x : Cx} {d : Nat} (F : Fx x cX6_told 2 RX6 yX6_told.name (some .int) d) : ∀ q ∈ tb_X6_told, Snd x 2 q :=
  List.forall_mem_cons.mpr ⟨s_iload_n F (a := 1) rfl (by decide +kernel),
    List.forall_mem_cons.mpr ⟨s_switch F (dflt := 159) (lo := 0) (hi := 11) (offs := #[63, 71, 79, 87, 95, 103, 111, 119, 127, 135, 143, 151]) (len := 63) (by decide) (by intro j hj; match j, hj with | 0, _ => exact ⟨_, rfl, by decide⟩ | 1, _ => exact ⟨_, rfl, by decide⟩ | 2, _ => exact ⟨_, rfl, by decide⟩ | 3, _ => exact ⟨_, rfl, by decide⟩ | 4, _ => exact ⟨_, rfl, by decide⟩ | 5, _ => exact ⟨_, rfl, by decide⟩ | 6, _ => exact ⟨_, rfl, by decide⟩ | 7, _ => exact ⟨_, rfl, by decide⟩ | 8, _ => exact ⟨_, rfl, by decide⟩ | 9, _ => exact ⟨_, rfl, by decide⟩ | 10, _ => exact ⟨_, rfl, by decide⟩ | 11, _ => exact ⟨_, rfl, by decide⟩ | k + 12, hj => exact absurd hj (by omega)) (by decide +kernel),
    List.forall_mem_cons.mpr ⟨s_aload_n F (a := 0) rfl (by decide +kernel),
    List.forall_mem_cons.mpr ⟨s_getf F (C := RX6) (T := TX6) (N := 9) (i := 10) inX6 rfl 0 (by decide) (aw2 27 (by decide +kernel) rfl) rfl (by decide +kernel),
    List.forall_mem_cons.mpr ⟨s_getf F (C := RX1) (T := TX1) (N := 8) (i := 92) inX1 rfl 3 (by decide) (aw1 40 (by decide +kernel) rfl) rfl (by decide +kernel),
    List.forall_mem_cons.mpr ⟨s_aload_n F (a := 0) rfl (by decide +kernel),
    List.forall_mem_cons.mpr ⟨s_getf F (C := RX6) (T := TX6) (N := 9) (i := 28) inX6 rfl 2 (by decide) (aw2 29 (by decide +kernel) rfl) rfl (by decide +kernel),
    List.forall_mem_cons.mpr ⟨s_getf F (C := RX5) (T := TX5) (N := 15) (i := 98) inX5 rfl 9 (by decide) (aw1 139 (by decide +kernel) rfl) rfl (by decide +kernel),
    List.forall_mem_cons.mpr ⟨s_aload_n F (a := 0) rfl (by decide +kernel),
    List.forall_mem_cons.mpr ⟨s_getf F (C := RX6) (T := TX6) (N := 9) (i := 28) inX6 rfl 2 (by decide) (aw2 29 (by decide +kernel) rfl) rfl (by decide +kernel),
    List.forall_mem_cons.mpr ⟨s_getf F (C := RX5) (T := TX5) (N := 15) (i := 101) inX5 rfl 10 (by decide) (aw1 141 (by decide +kernel) rfl) rfl (by decide +kernel),
    List.forall_mem_cons.mpr ⟨s_aload_n F (a := 0) rfl (by decide +kernel),
    List.forall_mem_cons.mpr ⟨s_getf F (C := RX6) (T := TX6) (N := 9) (i := 28) inX6 rfl 2 (by decide) (aw2 29 (by decide +kernel) rfl) rfl (by decide +kernel),
    List.forall_mem_cons.mpr ⟨s_getf F (C := RX5) (T := TX5) (N := 15) (i := 104) inX5 rfl 11 (by decide) (aw1 143 (by decide +kernel) rfl) rfl (by decide +kernel),
    List.forall_mem_cons.mpr ⟨s_aload_n F (a := 0) rfl (by decide +kernel),
    List.forall_mem_cons.mpr ⟨s_getf F (C := RX6) (T := TX6) (N := 9) (i := 10) inX6 rfl 0 (by decide) (aw2 27 (by decide +kernel) rfl) rfl (by decide +kernel),
    List.forall_mem_cons.mpr ⟨s_getf F (C := RX1) (T := TX1) (N := 8) (i := 107) inX1 rfl 7 (by decide) (aw1 53 (by decide +kernel) rfl) rfl (by decide +kernel),
    List.forall_mem_cons.mpr ⟨s_aload_n F (a := 0) rfl (by decide +kernel),
    List.forall_mem_cons.mpr ⟨s_getf F (C := RX6) (T := TX6) (N := 9) (i := 19) inX6 rfl 1 (by decide) (aw2 28 (by decide +kernel) rfl) rfl (by decide +kernel),
    List.forall_mem_cons.mpr ⟨s_getf F (C := RX4) (T := TX4) (N := 8) (i := 65) inX4 rfl 1 (by decide) (aw1 85 (by decide +kernel) rfl) rfl (by decide +kernel),
    List.forall_mem_cons.mpr ⟨s_aload_n F (a := 0) rfl (by decide +kernel),
    List.forall_mem_cons.mpr ⟨s_getf F (C := RX6) (T := TX6) (N := 9) (i := 28) inX6 rfl 2 (by decide) (aw2 29 (by decide +kernel) rfl) rfl (by decide +kernel),
    List.forall_mem_cons.mpr ⟨s_getf F (C := RX5) (T := TX5) (N := 15) (i := 110) inX5 rfl 5 (by decide) (aw1 131 (by decide +kernel) rfl) rfl (by decide +kernel),
    List.forall_mem_cons.mpr ⟨s_aload_n F (a := 0) rfl (by decide +kernel),
    List.forall_mem_cons.mpr ⟨s_getf F (C := RX6) (T := TX6) (N := 9) (i := 28) inX6 rfl 2 (by decide) (aw2 29 (by decide +kernel) rfl) rfl (by decide +kernel),
    List.forall_mem_cons.mpr ⟨s_getf F (C := RX5) (T := TX5) (N := 15) (i := 111) inX5 rfl 6 (by decide) (aw1 133 (by decide +kernel) rfl) rfl (by decide +kernel),
    List.forall_mem_cons.mpr ⟨s_aload_n F (a := 0) rfl (by decide +kernel),
    List.forall_mem_cons.mpr ⟨s_getf F (C := RX6) (T := TX6) (N := 9) (i := 28) inX6 rfl 2 (by decide) (aw2 29 (by decide +kernel) rfl) rfl (by decide +kernel),
    List.forall_mem_cons.mpr ⟨s_getf F (C := RX5) (T := TX5) (N := 15) (i := 114) inX5 rfl 7 (by decide) (aw1 135 (by decide +kernel) rfl) rfl (by decide +kernel),
    List.forall_mem_cons.mpr ⟨s_aload_n F (a := 0) rfl (by decide +kernel),
    List.forall_mem_cons.mpr ⟨s_getf F (C := RX6) (T := TX6) (N := 9) (i := 28) inX6 rfl 2 (by decide) (aw2 29 (by decide +kernel) rfl) rfl (by decide +kernel),
    List.forall_mem_cons.mpr ⟨s_getf F (C := RX5) (T := TX5) (N := 15) (i := 117) inX5 rfl 8 (by decide) (aw1 137 (by decide +kernel) rfl) rfl (by decide +kernel),
    List.forall_mem_cons.mpr ⟨s_aload_n F (a := 0) rfl (by decide +kernel),
    List.forall_mem_cons.mpr ⟨s_getf F (C := RX6) (T := TX6) (N := 9) (i := 38) inX6 rfl 4 (by decide) (aw2 31 (by decide +kernel) rfl) rfl (by decide +kernel),
    List.forall_mem_cons.mpr ⟨s_getf F (C := RX3) (T := TX3) (N := 6) (i := 83) inX3 rfl 1 (by decide) (aw1 188 (by decide +kernel) rfl) rfl (by decide +kernel),
    List.forall_mem_cons.mpr ⟨s_aload_n F (a := 0) rfl (by decide +kernel),
    List.forall_mem_cons.mpr ⟨s_getf F (C := RX6) (T := TX6) (N := 9) (i := 52) inX6 rfl 6 (by decide) (aw2 33 (by decide +kernel) rfl) rfl (by decide +kernel),
    List.forall_mem_cons.mpr ⟨s_getf F (C := RX2) (T := TX2) (N := 7) (i := 86) inX2 rfl 3 (by decide) (aw2 8 (by decide +kernel) rfl) rfl (by decide +kernel),
    List.forall_mem_cons.mpr ⟨s_ldc F (i := 60) (aw2 59 (by decide +kernel) rfl) (by decide +kernel),
    (fun _ h => absurd h List.not_mem_nil)⟩⟩⟩⟩⟩⟩⟩⟩⟩⟩⟩⟩⟩⟩⟩⟩⟩⟩⟩⟩⟩⟩⟩⟩⟩⟩⟩⟩⟩⟩⟩⟩⟩⟩⟩⟩⟩⟩⟩
abbrev mk_X6_member : Mk := (yX6_member, cX6_member, 3, (some .int))
def tb_X6_member : List (Nat × Op) := [(0, o_aload 0 1), (1, o_iload 1 1), (5, o_if_ne 11), (8, o_push (.int (-1000000001)) 2), (11, o_iload 2 1), (12, o_switch 0 7 [60, 70, 80, 90, 100, 117, 139, 149] 159), (60, o_aload 0 1), (61, o_getf 6 0), (64, o_getf 1 0), (67, o_iload 1 1), (68, o_iald), (70, o_aload 0 1), (71, o_getf 6 2), (74, o_getf 5 1), (77, o_iload 1 1), (78, o_iald), (80, o_aload 0 1), (81, o_getf 6 2), (84, o_getf 5 3), (87, o_iload 1 1), (88, o_iald), (90, o_aload 0 1), (91, o_getf 6 2), (94, o_getf 5 4), (97, o_iload 1 1), (98, o_iald), (100, o_aload 0 1), (101, o_getf 6 2), (104, o_iload 1 1), (108, o_if_eq 115), (111, o_push (.int 1) 1), (112, o_goto 116), (115, o_push (.int 0) 1), (117, o_aload 0 1), (118, o_getf 6 2), (121, o_getf 5 1), (124, o_iload 1 1), (125, o_iald), (126, o_aload 0 1), (127, o_getf 6 2), (130, o_getf 5 3), (133, o_iload 1 1), (134, o_iald), (135, o_min), (139, o_aload 0 1), (140, o_getf 6 0), (143, o_getf 1 1), (146, o_iload 1 1), (147, o_iald), (149, o_aload 0 1), (150, o_getf 6 2), (153, o_getf 5 2), (156, o_iload 1 1), (157, o_iald), (159, o_push (.int (-1000000002)) 2)]
set_option maxRecDepth 20000 in
set_option maxHeartbeats 4000000 in
theorem sn_X6_member {x : Cx} {d : Nat} (F : Fx x cX6_member 3 RX6 yX6_member.name (some .int) d) (hd1 : 1 ≤ d) : ∀ q ∈ tb_X6_member, Snd x 3 q :=
  List.forall_mem_cons.mpr ⟨s_aload_n F (a := 0) rfl (by decide +kernel),
    List.forall_mem_cons.mpr ⟨s_iload_n F (a := 1) rfl (by decide +kernel),
    List.forall_mem_cons.mpr ⟨s_if_ne F (off := 6) (by decide) (by decide +kernel),
    List.forall_mem_cons.mpr ⟨s_ldc F (i := 124) (aw2 207 (by decide +kernel) rfl) (by decide +kernel),
    List.forall_mem_cons.mpr ⟨s_iload_n F (a := 2) rfl (by decide +kernel),
    List.forall_mem_cons.mpr ⟨s_switch F (dflt := 147) (lo := 0) (hi := 7) (offs := #[48, 58, 68, 78, 88, 105, 127, 137]) (len := 48) (by decide) (by intro j hj; match j, hj with | 0, _ => exact ⟨_, rfl, by decide⟩ | 1, _ => exact ⟨_, rfl, by decide⟩ | 2, _ => exact ⟨_, rfl, by decide⟩ | 3, _ => exact ⟨_, rfl, by decide⟩ | 4, _ => exact ⟨_, rfl, by decide⟩ | 5, _ => exact ⟨_, rfl, by decide⟩ | 6, _ => exact ⟨_, rfl, by decide⟩ | 7, _ => exact ⟨_, rfl, by decide⟩ | k + 8, hj => exact absurd hj (by omega)) (by decide +kernel),
    List.forall_mem_cons.mpr ⟨s_aload_n F (a := 0) rfl (by decide +kernel),
    List.forall_mem_cons.mpr ⟨s_getf F (C := RX6) (T := TX6) (N := 9) (i := 10) inX6 rfl 0 (by decide) (aw2 27 (by decide +kernel) rfl) rfl (by decide +kernel),
    List.forall_mem_cons.mpr ⟨s_getf F (C := RX1) (T := TX1) (N := 8) (i := 125) inX1 rfl 0 (by decide) (aw1 31 (by decide +kernel) rfl) rfl (by decide +kernel),
    List.forall_mem_cons.mpr ⟨s_iload_n F (a := 1) rfl (by decide +kernel),
    List.forall_mem_cons.mpr ⟨s_iald F (by decide +kernel),
    List.forall_mem_cons.mpr ⟨s_aload_n F (a := 0) rfl (by decide +kernel),
    List.forall_mem_cons.mpr ⟨s_getf F (C := RX6) (T := TX6) (N := 9) (i := 28) inX6 rfl 2 (by decide) (aw2 29 (by decide +kernel) rfl) rfl (by decide +kernel),
    List.forall_mem_cons.mpr ⟨s_getf F (C := RX5) (T := TX5) (N := 15) (i := 129) inX5 rfl 1 (by decide) (aw1 120 (by decide +kernel) rfl) rfl (by decide +kernel),
    List.forall_mem_cons.mpr ⟨s_iload_n F (a := 1) rfl (by decide +kernel),
    List.forall_mem_cons.mpr ⟨s_iald F (by decide +kernel),
    List.forall_mem_cons.mpr ⟨s_aload_n F (a := 0) rfl (by decide +kernel),
    List.forall_mem_cons.mpr ⟨s_getf F (C := RX6) (T := TX6) (N := 9) (i := 28) inX6 rfl 2 (by decide) (aw2 29 (by decide +kernel) rfl) rfl (by decide +kernel),
    List.forall_mem_cons.mpr ⟨s_getf F (C := RX5) (T := TX5) (N := 15) (i := 132) inX5 rfl 3 (by decide) (aw1 126 (by decide +kernel) rfl) rfl (by decide +kernel),
    List.forall_mem_cons.mpr ⟨s_iload_n F (a := 1) rfl (by decide +kernel),
    List.forall_mem_cons.mpr ⟨s_iald F (by decide +kernel),
    List.forall_mem_cons.mpr ⟨s_aload_n F (a := 0) rfl (by decide +kernel),
    List.forall_mem_cons.mpr ⟨s_getf F (C := RX6) (T := TX6) (N := 9) (i := 28) inX6 rfl 2 (by decide) (aw2 29 (by decide +kernel) rfl) rfl (by decide +kernel),
    List.forall_mem_cons.mpr ⟨s_getf F (C := RX5) (T := TX5) (N := 15) (i := 135) inX5 rfl 4 (by decide) (aw1 129 (by decide +kernel) rfl) rfl (by decide +kernel),
    List.forall_mem_cons.mpr ⟨s_iload_n F (a := 1) rfl (by decide +kernel),
    List.forall_mem_cons.mpr ⟨s_iald F (by decide +kernel),
    List.forall_mem_cons.mpr ⟨s_aload_n F (a := 0) rfl (by decide +kernel),
    List.forall_mem_cons.mpr ⟨s_getf F (C := RX6) (T := TX6) (N := 9) (i := 28) inX6 rfl 2 (by decide) (aw2 29 (by decide +kernel) rfl) rfl (by decide +kernel),
    List.forall_mem_cons.mpr ⟨s_iload_n F (a := 1) rfl (by decide +kernel),
    List.forall_mem_cons.mpr ⟨s_if_eq F (off := 7) (by decide) (by decide +kernel),
    List.forall_mem_cons.mpr ⟨s_iconst F (n := 1) (by decide +kernel) (by decide +kernel),
    List.forall_mem_cons.mpr ⟨s_goto F (off := 4) (by decide) (by decide +kernel),
    List.forall_mem_cons.mpr ⟨s_iconst F (n := 0) (by decide +kernel) (by decide +kernel),
    List.forall_mem_cons.mpr ⟨s_aload_n F (a := 0) rfl (by decide +kernel),
    List.forall_mem_cons.mpr ⟨s_getf F (C := RX6) (T := TX6) (N := 9) (i := 28) inX6 rfl 2 (by decide) (aw2 29 (by decide +kernel) rfl) rfl (by decide +kernel),
    List.forall_mem_cons.mpr ⟨s_getf F (C := RX5) (T := TX5) (N := 15) (i := 129) inX5 rfl 1 (by decide) (aw1 120 (by decide +kernel) rfl) rfl (by decide +kernel),
    List.forall_mem_cons.mpr ⟨s_iload_n F (a := 1) rfl (by decide +kernel),
    List.forall_mem_cons.mpr ⟨s_iald F (by decide +kernel),
    List.forall_mem_cons.mpr ⟨s_aload_n F (a := 0) rfl (by decide +kernel),
    List.forall_mem_cons.mpr ⟨s_getf F (C := RX6) (T := TX6) (N := 9) (i := 28) inX6 rfl 2 (by decide) (aw2 29 (by decide +kernel) rfl) rfl (by decide +kernel),
    List.forall_mem_cons.mpr ⟨s_getf F (C := RX5) (T := TX5) (N := 15) (i := 132) inX5 rfl 3 (by decide) (aw1 126 (by decide +kernel) rfl) rfl (by decide +kernel),
    List.forall_mem_cons.mpr ⟨s_iload_n F (a := 1) rfl (by decide +kernel),
    List.forall_mem_cons.mpr ⟨s_iald F (by decide +kernel),
    List.forall_mem_cons.mpr ⟨s_min F (i := 141) hd1 (aw2 212 (by decide +kernel) rfl) (aw2 213 (by decide +kernel) rfl) (aw1 13 (by decide +kernel) rfl) (aw2 214 (by decide +kernel) rfl) (by decide +kernel),
    List.forall_mem_cons.mpr ⟨s_aload_n F (a := 0) rfl (by decide +kernel),
    List.forall_mem_cons.mpr ⟨s_getf F (C := RX6) (T := TX6) (N := 9) (i := 10) inX6 rfl 0 (by decide) (aw2 27 (by decide +kernel) rfl) rfl (by decide +kernel),
    List.forall_mem_cons.mpr ⟨s_getf F (C := RX1) (T := TX1) (N := 8) (i := 147) inX1 rfl 1 (by decide) (aw1 35 (by decide +kernel) rfl) rfl (by decide +kernel),
    List.forall_mem_cons.mpr ⟨s_iload_n F (a := 1) rfl (by decide +kernel),
    List.forall_mem_cons.mpr ⟨s_iald F (by decide +kernel),
    List.forall_mem_cons.mpr ⟨s_aload_n F (a := 0) rfl (by decide +kernel),
    List.forall_mem_cons.mpr ⟨s_getf F (C := RX6) (T := TX6) (N := 9) (i := 28) inX6 rfl 2 (by decide) (aw2 29 (by decide +kernel) rfl) rfl (by decide +kernel),
    List.forall_mem_cons.mpr ⟨s_getf F (C := RX5) (T := TX5) (N := 15) (i := 150) inX5 rfl 2 (by decide) (aw1 123 (by decide +kernel) rfl) rfl (by decide +kernel),
    List.forall_mem_cons.mpr ⟨s_iload_n F (a := 1) rfl (by decide +kernel),
    List.forall_mem_cons.mpr ⟨s_iald F (by decide +kernel),
    List.forall_mem_cons.mpr ⟨s_ldc F (i := 60) (aw2 59 (by decide +kernel) rfl) (by decide +kernel),
    (fun _ h => absurd h List.not_mem_nil)⟩⟩⟩⟩⟩⟩⟩⟩⟩⟩⟩⟩⟩⟩⟩⟩⟩⟩⟩⟩⟩⟩⟩⟩⟩⟩⟩⟩⟩⟩⟩⟩⟩⟩⟩⟩⟩⟩⟩⟩⟩⟩⟩⟩⟩⟩⟩⟩⟩⟩⟩⟩⟩⟩⟩
abbrev mk_X6_beat : Mk := (yX6_beat, cX6_beat, 2, (some .int))
def tb_X6_beat : List (Nat × Op) := [(0, o_aload 0 1), (1, o_iload 1 1), (5, o_if_eq 19), (8, o_aload 0 1), (9, o_getf 6 2), (12, o_iload 1 1), (16, o_goto 21), (19, o_push (.int (-1000000001)) 2)]
set_option maxRecDepth 20000 in
set_option maxHeartbeats 4000000 in
theorem sn_X6_beat {x : Cx} {d : Nat} (F : Fx x cX6_beat 2 RX6 yX6_beat.name (some .int) d) : ∀ q ∈ tb_X6_beat, Snd x 2 q :=
  List.forall_mem_cons.mpr ⟨s_aload_n F (a := 0) rfl (by decide +kernel),
    List.forall_mem_cons.mpr ⟨s_iload_n F (a := 1) rfl (by decide +kernel),
    List.forall_mem_cons.mpr ⟨s_if_eq F (off := 14) (by decide) (by decide +kernel),
    List.forall_mem_cons.mpr ⟨s_aload_n F (a := 0) rfl (by decide +kernel),
    List.forall_mem_cons.mpr ⟨s_getf F (C := RX6) (T := TX6) (N := 9) (i := 28) inX6 rfl 2 (by decide) (aw2 29 (by decide +kernel) rfl) rfl (by decide +kernel),
    List.forall_mem_cons.mpr ⟨s_iload_n F (a := 1) rfl (by decide +kernel),
    List.forall_mem_cons.mpr ⟨s_goto F (off := 5) (by decide) (by decide +kernel),
    List.forall_mem_cons.mpr ⟨s_ldc F (i := 124) (aw2 207 (by decide +kernel) rfl) (by decide +kernel),
    (fun _ h => absurd h List.not_mem_nil)⟩⟩⟩⟩⟩⟩⟩⟩
abbrev mk_X6_theme : Mk := (yX6_theme, cX6_theme, 4, (some .int))
def tb_X6_theme : List (Nat × Op) := [(0, o_aload 0 1), (1, o_iload 1 1), (5, o_if_ne 11), (8, o_push (.int (-1000000001)) 2), (11, o_iload 2 1), (12, o_if_lt 21), (15, o_iload 2 1), (16, o_push (.int 99) 2), (18, o_icmp_le 24), (21, o_push (.int (-1000000002)) 2), (24, o_aload 0 1), (25, o_getf 6 2), (28, o_getf 5 3), (31, o_iload 1 1), (32, o_iald), (33, o_istore 3 1), (34, o_aload 0 1), (35, o_getf 6 2), (38, o_getf 5 3), (41, o_iload 1 1), (42, o_iload 2 1), (43, o_iast), (44, o_iload 3 1)]
set_option maxRecDepth 20000 in
set_option maxHeartbeats 4000000 in
theorem sn_X6_theme {x : Cx} {d : Nat} (F : Fx x cX6_theme 4 RX6 yX6_theme.name (some .int) d) : ∀ q ∈ tb_X6_theme, Snd x 4 q :=
  List.forall_mem_cons.mpr ⟨s_aload_n F (a := 0) rfl (by decide +kernel),
    List.forall_mem_cons.mpr ⟨s_iload_n F (a := 1) rfl (by decide +kernel),
    List.forall_mem_cons.mpr ⟨s_if_ne F (off := 6) (by decide) (by decide +kernel),
    List.forall_mem_cons.mpr ⟨s_ldc F (i := 124) (aw2 207 (by decide +kernel) rfl) (by decide +kernel),
    List.forall_mem_cons.mpr ⟨s_iload_n F (a := 2) rfl (by decide +kernel),
    List.forall_mem_cons.mpr ⟨s_if_lt F (off := 9) (by decide) (by decide +kernel),
    List.forall_mem_cons.mpr ⟨s_iload_n F (a := 2) rfl (by decide +kernel),
    List.forall_mem_cons.mpr ⟨s_bipush F (n := 99) (by decide +kernel) (by decide +kernel),
    List.forall_mem_cons.mpr ⟨s_icmp_le F (off := 6) (by decide) (by decide +kernel),
    List.forall_mem_cons.mpr ⟨s_ldc F (i := 60) (aw2 59 (by decide +kernel) rfl) (by decide +kernel),
    List.forall_mem_cons.mpr ⟨s_aload_n F (a := 0) rfl (by decide +kernel),
    List.forall_mem_cons.mpr ⟨s_getf F (C := RX6) (T := TX6) (N := 9) (i := 28) inX6 rfl 2 (by decide) (aw2 29 (by decide +kernel) rfl) rfl (by decide +kernel),
    List.forall_mem_cons.mpr ⟨s_getf F (C := RX5) (T := TX5) (N := 15) (i := 132) inX5 rfl 3 (by decide) (aw1 126 (by decide +kernel) rfl) rfl (by decide +kernel),
    List.forall_mem_cons.mpr ⟨s_iload_n F (a := 1) rfl (by decide +kernel),
    List.forall_mem_cons.mpr ⟨s_iald F (by decide +kernel),
    List.forall_mem_cons.mpr ⟨s_istore_n F (a := 3) rfl (by decide) (by decide +kernel),
    List.forall_mem_cons.mpr ⟨s_aload_n F (a := 0) rfl (by decide +kernel),
    List.forall_mem_cons.mpr ⟨s_getf F (C := RX6) (T := TX6) (N := 9) (i := 28) inX6 rfl 2 (by decide) (aw2 29 (by decide +kernel) rfl) rfl (by decide +kernel),
    List.forall_mem_cons.mpr ⟨s_getf F (C := RX5) (T := TX5) (N := 15) (i := 132) inX5 rfl 3 (by decide) (aw1 126 (by decide +kernel) rfl) rfl (by decide +kernel),
    List.forall_mem_cons.mpr ⟨s_iload_n F (a := 1) rfl (by decide +kernel),
    List.forall_mem_cons.mpr ⟨s_iload_n F (a := 2) rfl (by decide +kernel),
    List.forall_mem_cons.mpr ⟨s_iast F (by decide +kernel),
    List.forall_mem_cons.mpr ⟨s_iload_n F (a := 3) rfl (by decide +kernel),
    (fun _ h => absurd h List.not_mem_nil)⟩⟩⟩⟩⟩⟩⟩⟩⟩⟩⟩⟩⟩⟩⟩⟩⟩⟩⟩⟩⟩⟩⟩
abbrev mk_X6_law : Mk := (yX6_law, cX6_law, 5, (some .int))
def tb_X6_law : List (Nat × Op) := [(0, o_iload 1 1), (4, o_if_eq 27), (7, o_iload 2 1), (8, o_if_lt 27), (11, o_iload 2 1), (12, o_push (.int 99) 2), (14, o_icmp_gt 27), (17, o_iload 3 1), (18, o_if_lt 27), (21, o_iload 3 1), (22, o_push (.int 99) 2), (24, o_icmp_le 30), (27, o_push (.int (-1000000002)) 2), (30, o_aload 0 1), (31, o_getf 6 2), (34, o_getf 5 9), (37, o_istore 4 2), (39, o_aload 0 1), (40, o_getf 6 2), (43, o_iload 1 1), (44, o_putI 5 9), (47, o_aload 0 1), (48, o_getf 6 2), (51, o_iload 2 1), (52, o_putI 5 10), (55, o_aload 0 1), (56, o_getf 6 2), (59, o_iload 3 1), (60, o_putI 5 11), (63, o_iload 4 2)]
set_option maxRecDepth 20000 in
set_option maxHeartbeats 4000000 in
theorem sn_X6_law {x : Cx} {d : Nat} (F : Fx x cX6_law 5 RX6 yX6_law.name (some .int) d) : ∀ q ∈ tb_X6_law, Snd x 5 q :=
  List.forall_mem_cons.mpr ⟨s_iload_n F (a := 1) rfl (by decide +kernel),
    List.forall_mem_cons.mpr ⟨s_if_eq F (off := 23) (by decide) (by decide +kernel),
    List.forall_mem_cons.mpr ⟨s_iload_n F (a := 2) rfl (by decide +kernel),
    List.forall_mem_cons.mpr ⟨s_if_lt F (off := 19) (by decide) (by decide +kernel),
    List.forall_mem_cons.mpr ⟨s_iload_n F (a := 2) rfl (by decide +kernel),
    List.forall_mem_cons.mpr ⟨s_bipush F (n := 99) (by decide +kernel) (by decide +kernel),
    List.forall_mem_cons.mpr ⟨s_icmp_gt F (off := 13) (by decide) (by decide +kernel),
    List.forall_mem_cons.mpr ⟨s_iload_n F (a := 3) rfl (by decide +kernel),
    List.forall_mem_cons.mpr ⟨s_if_lt F (off := 9) (by decide) (by decide +kernel),
    List.forall_mem_cons.mpr ⟨s_iload_n F (a := 3) rfl (by decide +kernel),
    List.forall_mem_cons.mpr ⟨s_bipush F (n := 99) (by decide +kernel) (by decide +kernel),
    List.forall_mem_cons.mpr ⟨s_icmp_le F (off := 6) (by decide) (by decide +kernel),
    List.forall_mem_cons.mpr ⟨s_ldc F (i := 60) (aw2 59 (by decide +kernel) rfl) (by decide +kernel),
    List.forall_mem_cons.mpr ⟨s_aload_n F (a := 0) rfl (by decide +kernel),
    List.forall_mem_cons.mpr ⟨s_getf F (C := RX6) (T := TX6) (N := 9) (i := 28) inX6 rfl 2 (by decide) (aw2 29 (by decide +kernel) rfl) rfl (by decide +kernel),
    List.forall_mem_cons.mpr ⟨s_getf F (C := RX5) (T := TX5) (N := 15) (i := 98) inX5 rfl 9 (by decide) (aw1 139 (by decide +kernel) rfl) rfl (by decide +kernel),
    List.forall_mem_cons.mpr ⟨s_istore F (by decide) (by decide +kernel),
    List.forall_mem_cons.mpr ⟨s_aload_n F (a := 0) rfl (by decide +kernel),
    List.forall_mem_cons.mpr ⟨s_getf F (C := RX6) (T := TX6) (N := 9) (i := 28) inX6 rfl 2 (by decide) (aw2 29 (by decide +kernel) rfl) rfl (by decide +kernel),
    List.forall_mem_cons.mpr ⟨s_iload_n F (a := 1) rfl (by decide +kernel),
    List.forall_mem_cons.mpr ⟨s_putI F (C := RX5) (T := TX5) (N := 15) (i := 98) inX5 tyX5 tyX5_ok nmX5 rfl 9 (by decide) (aw1 139 (by decide +kernel) rfl) rfl rfl rfl (by decide +kernel),
    List.forall_mem_cons.mpr ⟨s_aload_n F (a := 0) rfl (by decide +kernel),
    List.forall_mem_cons.mpr ⟨s_getf F (C := RX6) (T := TX6) (N := 9) (i := 28) inX6 rfl 2 (by decide) (aw2 29 (by decide +kernel) rfl) rfl (by decide +kernel),
    List.forall_mem_cons.mpr ⟨s_iload_n F (a := 2) rfl (by decide +kernel),
    List.forall_mem_cons.mpr ⟨s_putI F (C := RX5) (T := TX5) (N := 15) (i := 101) inX5 tyX5 tyX5_ok nmX5 rfl 10 (by decide) (aw1 141 (by decide +kernel) rfl) rfl rfl rfl (by decide +kernel),
    List.forall_mem_cons.mpr ⟨s_aload_n F (a := 0) rfl (by decide +kernel),
    List.forall_mem_cons.mpr ⟨s_getf F (C := RX6) (T := TX6) (N := 9) (i := 28) inX6 rfl 2 (by decide) (aw2 29 (by decide +kernel) rfl) rfl (by decide +kernel),
    List.forall_mem_cons.mpr ⟨s_iload_n F (a := 3) rfl (by decide +kernel),
    List.forall_mem_cons.mpr ⟨s_putI F (C := RX5) (T := TX5) (N := 15) (i := 104) inX5 tyX5 tyX5_ok nmX5 rfl 11 (by decide) (aw1 143 (by decide +kernel) rfl) rfl rfl rfl (by decide +kernel),
    List.forall_mem_cons.mpr ⟨s_iload F (by decide +kernel),
    (fun _ h => absurd h List.not_mem_nil)⟩⟩⟩⟩⟩⟩⟩⟩⟩⟩⟩⟩⟩⟩⟩⟩⟩⟩⟩⟩⟩⟩⟩⟩⟩⟩⟩⟩⟩⟩
abbrev mk_X6_drift : Mk := (yX6_drift, cX6_drift, 4, (some .int))
def tb_X6_drift : List (Nat × Op) := [(0, o_iload 1 1), (1, o_push (.int 1) 1), (2, o_icmp_lt 12), (5, o_iload 1 1), (6, o_push (.int 999) 3), (9, o_icmp_le 15), (12, o_push (.int (-1000000002)) 2), (15, o_aload 0 1), (16, o_getf 6 0), (19, o_getf 1 3), (22, o_if_ne 28), (25, o_push (.int (-1000000003)) 2), (28, o_aload 0 1), (29, o_getf 6 2), (32, o_getf 5 6), (35, o_istore 2 1), (36, o_push (.int 0) 1), (37, o_istore 3 1), (38, o_iload 3 1), (39, o_iload 1 1), (40, o_icmp_ge 64), (43, o_aload 0 1), (44, o_getf 6 2), (47, o_aload 0 1), (48, o_getf 6 2), (57, o_pop), (58, o_iinc 3 1), (61, o_goto 38), (64, o_aload 0 1), (65, o_getf 6 2), (68, o_getf 5 6), (71, o_iload 2 1), (72, o_isub)]
set_option maxRecDepth 20000 in
set_option maxHeartbeats 4000000 in
theorem sn_X6_drift {x : Cx} {d : Nat} (F : Fx x cX6_drift 4 RX6 yX6_drift.name (some .int) d) : ∀ q ∈ tb_X6_drift, Snd x 4 q :=
  List.forall_mem_cons.mpr ⟨s_iload_n F (a := 1) rfl (by decide +kernel),
    List.forall_mem_cons.mpr ⟨s_iconst F (n := 1) (by decide +kernel) (by decide +kernel),
    List.forall_mem_cons.mpr ⟨s_icmp_lt F (off := 10) (by decide) (by decide +kernel),
    List.forall_mem_cons.mpr ⟨s_iload_n F (a := 1) rfl (by decide +kernel),
    List.forall_mem_cons.mpr ⟨s_sipush F (n := 999) (by decide +kernel) (by decide +kernel),
    List.forall_mem_cons.mpr ⟨s_icmp_le F (off := 6) (by decide) (by decide +kernel),
    List.forall_mem_cons.mpr ⟨s_ldc F (i := 60) (aw2 59 (by decide +kernel) rfl) (by decide +kernel),
    List.forall_mem_cons.mpr ⟨s_aload_n F (a := 0) rfl (by decide +kernel),
    List.forall_mem_cons.mpr ⟨s_getf F (C := RX6) (T := TX6) (N := 9) (i := 10) inX6 rfl 0 (by decide) (aw2 27 (by decide +kernel) rfl) rfl (by decide +kernel),
    List.forall_mem_cons.mpr ⟨s_getf F (C := RX1) (T := TX1) (N := 8) (i := 92) inX1 rfl 3 (by decide) (aw1 40 (by decide +kernel) rfl) rfl (by decide +kernel),
    List.forall_mem_cons.mpr ⟨s_if_ne F (off := 6) (by decide) (by decide +kernel),
    List.forall_mem_cons.mpr ⟨s_ldc F (i := 163) (aw3 22 (by decide +kernel) rfl) (by decide +kernel),
    List.forall_mem_cons.mpr ⟨s_aload_n F (a := 0) rfl (by decide +kernel),
    List.forall_mem_cons.mpr ⟨s_getf F (C := RX6) (T := TX6) (N := 9) (i := 28) inX6 rfl 2 (by decide) (aw2 29 (by decide +kernel) rfl) rfl (by decide +kernel),
    List.forall_mem_cons.mpr ⟨s_getf F (C := RX5) (T := TX5) (N := 15) (i := 111) inX5 rfl 6 (by decide) (aw1 133 (by decide +kernel) rfl) rfl (by decide +kernel),
    List.forall_mem_cons.mpr ⟨s_istore_n F (a := 2) rfl (by decide) (by decide +kernel),
    List.forall_mem_cons.mpr ⟨s_iconst F (n := 0) (by decide +kernel) (by decide +kernel),
    List.forall_mem_cons.mpr ⟨s_istore_n F (a := 3) rfl (by decide) (by decide +kernel),
    List.forall_mem_cons.mpr ⟨s_iload_n F (a := 3) rfl (by decide +kernel),
    List.forall_mem_cons.mpr ⟨s_iload_n F (a := 1) rfl (by decide +kernel),
    List.forall_mem_cons.mpr ⟨s_icmp_ge F (off := 24) (by decide) (by decide +kernel),
    List.forall_mem_cons.mpr ⟨s_aload_n F (a := 0) rfl (by decide +kernel),
    List.forall_mem_cons.mpr ⟨s_getf F (C := RX6) (T := TX6) (N := 9) (i := 28) inX6 rfl 2 (by decide) (aw2 29 (by decide +kernel) rfl) rfl (by decide +kernel),
    List.forall_mem_cons.mpr ⟨s_aload_n F (a := 0) rfl (by decide +kernel),
    List.forall_mem_cons.mpr ⟨s_getf F (C := RX6) (T := TX6) (N := 9) (i := 28) inX6 rfl 2 (by decide) (aw2 29 (by decide +kernel) rfl) rfl (by decide +kernel),
    List.forall_mem_cons.mpr ⟨s_pop F (by decide +kernel),
    List.forall_mem_cons.mpr ⟨s_iinc F (z := 1) (by decide +kernel) (by decide) (by decide +kernel),
    List.forall_mem_cons.mpr ⟨s_goto F (off := (-23)) (by decide) (by decide +kernel),
    List.forall_mem_cons.mpr ⟨s_aload_n F (a := 0) rfl (by decide +kernel),
    List.forall_mem_cons.mpr ⟨s_getf F (C := RX6) (T := TX6) (N := 9) (i := 28) inX6 rfl 2 (by decide) (aw2 29 (by decide +kernel) rfl) rfl (by decide +kernel),
    List.forall_mem_cons.mpr ⟨s_getf F (C := RX5) (T := TX5) (N := 15) (i := 111) inX5 rfl 6 (by decide) (aw1 133 (by decide +kernel) rfl) rfl (by decide +kernel),
    List.forall_mem_cons.mpr ⟨s_iload_n F (a := 2) rfl (by decide +kernel),
    List.forall_mem_cons.mpr ⟨s_isub F (by decide +kernel),
    (fun _ h => absurd h List.not_mem_nil)⟩⟩⟩⟩⟩⟩⟩⟩⟩⟩⟩⟩⟩⟩⟩⟩⟩⟩⟩⟩⟩⟩⟩⟩⟩⟩⟩⟩⟩⟩⟩⟩⟩
abbrev mk_X6_plan : Mk := (yX6_plan, cX6_plan, 2, (some .int))
def tb_X6_plan : List (Nat × Op) := [(0, o_aload 0 1), (1, o_iload 1 1), (5, o_if_ne 11), (8, o_push (.int (-1000000001)) 2), (11, o_aload 0 1), (12, o_getf 6 4), (15, o_iload 1 1), (19, o_if_eq 32), (22, o_aload 0 1), (23, o_getf 6 4), (26, o_getf 3 1), (29, o_goto 34), (32, o_push (.int (-1000000004)) 2)]
set_option maxRecDepth 20000 in
set_option maxHeartbeats 4000000 in
theorem sn_X6_plan {x : Cx} {d : Nat} (F : Fx x cX6_plan 2 RX6 yX6_plan.name (some .int) d) : ∀ q ∈ tb_X6_plan, Snd x 2 q :=
  List.forall_mem_cons.mpr ⟨s_aload_n F (a := 0) rfl (by decide +kernel),
    List.forall_mem_cons.mpr ⟨s_iload_n F (a := 1) rfl (by decide +kernel),
    List.forall_mem_cons.mpr ⟨s_if_ne F (off := 6) (by decide) (by decide +kernel),
    List.forall_mem_cons.mpr ⟨s_ldc F (i := 124) (aw2 207 (by decide +kernel) rfl) (by decide +kernel),
    List.forall_mem_cons.mpr ⟨s_aload_n F (a := 0) rfl (by decide +kernel),
    List.forall_mem_cons.mpr ⟨s_getf F (C := RX6) (T := TX6) (N := 9) (i := 38) inX6 rfl 4 (by decide) (aw2 31 (by decide +kernel) rfl) rfl (by decide +kernel),
    List.forall_mem_cons.mpr ⟨s_iload_n F (a := 1) rfl (by decide +kernel),
    List.forall_mem_cons.mpr ⟨s_if_eq F (off := 13) (by decide) (by decide +kernel),
    List.forall_mem_cons.mpr ⟨s_aload_n F (a := 0) rfl (by decide +kernel),
    List.forall_mem_cons.mpr ⟨s_getf F (C := RX6) (T := TX6) (N := 9) (i := 38) inX6 rfl 4 (by decide) (aw2 31 (by decide +kernel) rfl) rfl (by decide +kernel),
    List.forall_mem_cons.mpr ⟨s_getf F (C := RX3) (T := TX3) (N := 6) (i := 83) inX3 rfl 1 (by decide) (aw1 188 (by decide +kernel) rfl) rfl (by decide +kernel),
    List.forall_mem_cons.mpr ⟨s_goto F (off := 5) (by decide) (by decide +kernel),
    List.forall_mem_cons.mpr ⟨s_ldc F (i := 69) (aw2 64 (by decide +kernel) rfl) (by decide +kernel),
    (fun _ h => absurd h List.not_mem_nil)⟩⟩⟩⟩⟩⟩⟩⟩⟩⟩⟩⟩⟩
abbrev mk_X6_drop : Mk := (yX6_drop, cX6_drop, 2, (some .int))
def tb_X6_drop : List (Nat × Op) := [(0, o_aload 0 1), (1, o_getf 6 4), (4, o_getf 3 1), (7, o_istore 1 1), (8, o_aload 0 1), (9, o_getf 6 4), (12, o_push (.int 0) 1), (13, o_putI 3 1), (16, o_iload 1 1)]
set_option maxRecDepth 20000 in
set_option maxHeartbeats 4000000 in
theorem sn_X6_drop {x : Cx} {d : Nat} (F : Fx x cX6_drop 2 RX6 yX6_drop.name (some .int) d) : ∀ q ∈ tb_X6_drop, Snd x 2 q :=
  List.forall_mem_cons.mpr ⟨s_aload_n F (a := 0) rfl (by decide +kernel),
    List.forall_mem_cons.mpr ⟨s_getf F (C := RX6) (T := TX6) (N := 9) (i := 38) inX6 rfl 4 (by decide) (aw2 31 (by decide +kernel) rfl) rfl (by decide +kernel),
    List.forall_mem_cons.mpr ⟨s_getf F (C := RX3) (T := TX3) (N := 6) (i := 83) inX3 rfl 1 (by decide) (aw1 188 (by decide +kernel) rfl) rfl (by decide +kernel),
    List.forall_mem_cons.mpr ⟨s_istore_n F (a := 1) rfl (by decide) (by decide +kernel),
    List.forall_mem_cons.mpr ⟨s_aload_n F (a := 0) rfl (by decide +kernel),
    List.forall_mem_cons.mpr ⟨s_getf F (C := RX6) (T := TX6) (N := 9) (i := 38) inX6 rfl 4 (by decide) (aw2 31 (by decide +kernel) rfl) rfl (by decide +kernel),
    List.forall_mem_cons.mpr ⟨s_iconst F (n := 0) (by decide +kernel) (by decide +kernel),
    List.forall_mem_cons.mpr ⟨s_putI F (C := RX3) (T := TX3) (N := 6) (i := 83) inX3 tyX3 tyX3_ok nmX3 rfl 1 (by decide) (aw1 188 (by decide +kernel) rfl) rfl rfl rfl (by decide +kernel),
    List.forall_mem_cons.mpr ⟨s_iload_n F (a := 1) rfl (by decide +kernel),
    (fun _ h => absurd h List.not_mem_nil)⟩⟩⟩⟩⟩⟩⟩⟩⟩
abbrev mk_X6_run : Mk := (yX6_run, cX6_run, 3, (some .int))
def tb_X6_run : List (Nat × Op) := [(0, o_iload 1 1), (1, o_push (.int (-1)) 1), (2, o_icmp_eq 16), (5, o_aload 0 1), (6, o_iload 1 1), (10, o_if_ne 16), (13, o_push (.int (-1000000001)) 2), (16, o_iload 1 1), (17, o_push (.int (-1)) 1), (18, o_icmp_ne 33), (21, o_iload 2 1), (22, o_if_lt 30), (25, o_iload 2 1), (26, o_push (.int 3) 1), (27, o_icmp_le 33), (30, o_push (.int (-1000000002)) 2), (33, o_aload 0 1), (34, o_getf 6 3), (37, o_aload 0 1), (38, o_getf 6 2), (44, o_aload 0 1), (45, o_getf 6 4), (48, o_aload 0 1), (49, o_getf 6 3), (55, o_aload 0 1), (56, o_iload 1 1), (60, o_if_eq 83), (63, o_aload 0 1), (64, o_getf 6 3), (67, o_getf 5 4), (70, o_iload 1 1), (71, o_iald), (72, o_aload 0 1), (73, o_getf 6 2), (76, o_getf 5 4), (79, o_iload 1 1), (80, o_iald), (81, o_isub), (83, o_iload 2 1), (84, o_switch 0 2 [112, 120, 128] 136), (112, o_aload 0 1), (113, o_getf 6 4), (116, o_getf 3 2), (120, o_aload 0 1), (121, o_getf 6 4), (124, o_getf 3 3), (128, o_aload 0 1), (129, o_getf 6 4), (132, o_getf 3 4), (136, o_aload 0 1), (137, o_getf 6 4), (140, o_getf 3 5)]
set_option maxRecDepth 20000 in
set_option maxHeartbeats 4000000 in
theorem sn_X6_run {x : Cx} {d : Nat} (F : Fx x cX6_run 3 RX6 yX6_run.name (some .int) d) : ∀ q ∈ tb_X6_run, Snd x 3 q :=
  List.forall_mem_cons.mpr ⟨s_iload_n F (a := 1) rfl (by decide +kernel),
    List.forall_mem_cons.mpr ⟨s_iconst F (n := (-1)) (by decide +kernel) (by decide +kernel),
    List.forall_mem_cons.mpr ⟨s_icmp_eq F (off := 14) (by decide) (by decide +kernel),
    List.forall_mem_cons.mpr ⟨s_aload_n F (a := 0) rfl (by decide +kernel),
    List.forall_mem_cons.mpr ⟨s_iload_n F (a := 1) rfl (by decide +kernel),
    List.forall_mem_cons.mpr ⟨s_if_ne F (off := 6) (by decide) (by decide +kernel),
    List.forall_mem_cons.mpr ⟨s_ldc F (i := 124) (aw2 207 (by decide +kernel) rfl) (by decide +kernel),
    List.forall_mem_cons.mpr ⟨s_iload_n F (a := 1) rfl (by decide +kernel),
    List.forall_mem_cons.mpr ⟨s_iconst F (n := (-1)) (by decide +kernel) (by decide +kernel),
    List.forall_mem_cons.mpr ⟨s_icmp_ne F (off := 15) (by decide) (by decide +kernel),
    List.forall_mem_cons.mpr ⟨s_iload_n F (a := 2) rfl (by decide +kernel),
    List.forall_mem_cons.mpr ⟨s_if_lt F (off := 8) (by decide) (by decide +kernel),
    List.forall_mem_cons.mpr ⟨s_iload_n F (a := 2) rfl (by decide +kernel),
    List.forall_mem_cons.mpr ⟨s_iconst F (n := 3) (by decide +kernel) (by decide +kernel),
    List.forall_mem_cons.mpr ⟨s_icmp_le F (off := 6) (by decide) (by decide +kernel),
    List.forall_mem_cons.mpr ⟨s_ldc F (i := 60) (aw2 59 (by decide +kernel) rfl) (by decide +kernel),
    List.forall_mem_cons.mpr ⟨s_aload_n F (a := 0) rfl (by decide +kernel),
    List.forall_mem_cons.mpr ⟨s_getf F (C := RX6) (T := TX6) (N := 9) (i := 32) inX6 rfl 3 (by decide) (aw2 30 (by decide +kernel) rfl) rfl (by decide +kernel),
    List.forall_mem_cons.mpr ⟨s_aload_n F (a := 0) rfl (by decide +kernel),
    List.forall_mem_cons.mpr ⟨s_getf F (C := RX6) (T := TX6) (N := 9) (i := 28) inX6 rfl 2 (by decide) (aw2 29 (by decide +kernel) rfl) rfl (by decide +kernel),
    List.forall_mem_cons.mpr ⟨s_aload_n F (a := 0) rfl (by decide +kernel),
    List.forall_mem_cons.mpr ⟨s_getf F (C := RX6) (T := TX6) (N := 9) (i := 38) inX6 rfl 4 (by decide) (aw2 31 (by decide +kernel) rfl) rfl (by decide +kernel),
    List.forall_mem_cons.mpr ⟨s_aload_n F (a := 0) rfl (by decide +kernel),
    List.forall_mem_cons.mpr ⟨s_getf F (C := RX6) (T := TX6) (N := 9) (i := 32) inX6 rfl 3 (by decide) (aw2 30 (by decide +kernel) rfl) rfl (by decide +kernel),
    List.forall_mem_cons.mpr ⟨s_aload_n F (a := 0) rfl (by decide +kernel),
    List.forall_mem_cons.mpr ⟨s_iload_n F (a := 1) rfl (by decide +kernel),
    List.forall_mem_cons.mpr ⟨s_if_eq F (off := 23) (by decide) (by decide +kernel),
    List.forall_mem_cons.mpr ⟨s_aload_n F (a := 0) rfl (by decide +kernel),
    List.forall_mem_cons.mpr ⟨s_getf F (C := RX6) (T := TX6) (N := 9) (i := 32) inX6 rfl 3 (by decide) (aw2 30 (by decide +kernel) rfl) rfl (by decide +kernel),
    List.forall_mem_cons.mpr ⟨s_getf F (C := RX5) (T := TX5) (N := 15) (i := 135) inX5 rfl 4 (by decide) (aw1 129 (by decide +kernel) rfl) rfl (by decide +kernel),
    List.forall_mem_cons.mpr ⟨s_iload_n F (a := 1) rfl (by decide +kernel),
    List.forall_mem_cons.mpr ⟨s_iald F (by decide +kernel),
    List.forall_mem_cons.mpr ⟨s_aload_n F (a := 0) rfl (by decide +kernel),
    List.forall_mem_cons.mpr ⟨s_getf F (C := RX6) (T := TX6) (N := 9) (i := 28) inX6 rfl 2 (by decide) (aw2 29 (by decide +kernel) rfl) rfl (by decide +kernel),
    List.forall_mem_cons.mpr ⟨s_getf F (C := RX5) (T := TX5) (N := 15) (i := 135) inX5 rfl 4 (by decide) (aw1 129 (by decide +kernel) rfl) rfl (by decide +kernel),
    List.forall_mem_cons.mpr ⟨s_iload_n F (a := 1) rfl (by decide +kernel),
    List.forall_mem_cons.mpr ⟨s_iald F (by decide +kernel),
    List.forall_mem_cons.mpr ⟨s_isub F (by decide +kernel),
    List.forall_mem_cons.mpr ⟨s_iload_n F (a := 2) rfl (by decide +kernel),
    List.forall_mem_cons.mpr ⟨s_switch F (dflt := 52) (lo := 0) (hi := 2) (offs := #[28, 36, 44]) (len := 28) (by decide) (by intro j hj; match j, hj with | 0, _ => exact ⟨_, rfl, by decide⟩ | 1, _ => exact ⟨_, rfl, by decide⟩ | 2, _ => exact ⟨_, rfl, by decide⟩ | k + 3, hj => exact absurd hj (by omega)) (by decide +kernel),
    List.forall_mem_cons.mpr ⟨s_aload_n F (a := 0) rfl (by decide +kernel),
    List.forall_mem_cons.mpr ⟨s_getf F (C := RX6) (T := TX6) (N := 9) (i := 38) inX6 rfl 4 (by decide) (aw2 31 (by decide +kernel) rfl) rfl (by decide +kernel),
    List.forall_mem_cons.mpr ⟨s_getf F (C := RX3) (T := TX3) (N := 6) (i := 175) inX3 rfl 2 (by decide) (aw1 190 (by decide +kernel) rfl) rfl (by decide +kernel),
    List.forall_mem_cons.mpr ⟨s_aload_n F (a := 0) rfl (by decide +kernel),
    List.forall_mem_cons.mpr ⟨s_getf F (C := RX6) (T := TX6) (N := 9) (i := 38) inX6 rfl 4 (by decide) (aw2 31 (by decide +kernel) rfl) rfl (by decide +kernel),
    List.forall_mem_cons.mpr ⟨s_getf F (C := RX3) (T := TX3) (N := 6) (i := 178) inX3 rfl 3 (by decide) (aw1 192 (by decide +kernel) rfl) rfl (by decide +kernel),
    List.forall_mem_cons.mpr ⟨s_aload_n F (a := 0) rfl (by decide +kernel),
    List.forall_mem_cons.mpr ⟨s_getf F (C := RX6) (T := TX6) (N := 9) (i := 38) inX6 rfl 4 (by decide) (aw2 31 (by decide +kernel) rfl) rfl (by decide +kernel),
    List.forall_mem_cons.mpr ⟨s_getf F (C := RX3) (T := TX3) (N := 6) (i := 181) inX3 rfl 4 (by decide) (aw1 194 (by decide +kernel) rfl) rfl (by decide +kernel),
    List.forall_mem_cons.mpr ⟨s_aload_n F (a := 0) rfl (by decide +kernel),
    List.forall_mem_cons.mpr ⟨s_getf F (C := RX6) (T := TX6) (N := 9) (i := 38) inX6 rfl 4 (by decide) (aw2 31 (by decide +kernel) rfl) rfl (by decide +kernel),
    List.forall_mem_cons.mpr ⟨s_getf F (C := RX3) (T := TX3) (N := 6) (i := 182) inX3 rfl 5 (by decide) (aw1 196 (by decide +kernel) rfl) rfl (by decide +kernel),
    (fun _ h => absurd h List.not_mem_nil)⟩⟩⟩⟩⟩⟩⟩⟩⟩⟩⟩⟩⟩⟩⟩⟩⟩⟩⟩⟩⟩⟩⟩⟩⟩⟩⟩⟩⟩⟩⟩⟩⟩⟩⟩⟩⟩⟩⟩⟩⟩⟩⟩⟩⟩⟩⟩⟩⟩⟩⟩⟩
abbrev mk_X6_follow : Mk := (yX6_follow, cX6_follow, 1, (some .int))
def tb_X6_follow : List (Nat × Op) := [(0, o_aload 0 1), (1, o_getf 6 4), (4, o_aload 0 1), (5, o_getf 6 2), (11, o_aload 0 1), (12, o_getf 6 4), (15, o_getf 3 2)]
set_option maxRecDepth 20000 in
set_option maxHeartbeats 4000000 in
theorem sn_X6_follow {x : Cx} {d : Nat} (F : Fx x cX6_follow 1 RX6 yX6_follow.name (some .int) d) : ∀ q ∈ tb_X6_follow, Snd x 1 q :=
  List.forall_mem_cons.mpr ⟨s_aload_n F (a := 0) rfl (by decide +kernel),
    List.forall_mem_cons.mpr ⟨s_getf F (C := RX6) (T := TX6) (N := 9) (i := 38) inX6 rfl 4 (by decide) (aw2 31 (by decide +kernel) rfl) rfl (by decide +kernel),
    List.forall_mem_cons.mpr ⟨s_aload_n F (a := 0) rfl (by decide +kernel),
    List.forall_mem_cons.mpr ⟨s_getf F (C := RX6) (T := TX6) (N := 9) (i := 28) inX6 rfl 2 (by decide) (aw2 29 (by decide +kernel) rfl) rfl (by decide +kernel),
    List.forall_mem_cons.mpr ⟨s_aload_n F (a := 0) rfl (by decide +kernel),
    List.forall_mem_cons.mpr ⟨s_getf F (C := RX6) (T := TX6) (N := 9) (i := 38) inX6 rfl 4 (by decide) (aw2 31 (by decide +kernel) rfl) rfl (by decide +kernel),
    List.forall_mem_cons.mpr ⟨s_getf F (C := RX3) (T := TX3) (N := 6) (i := 175) inX3 rfl 2 (by decide) (aw1 190 (by decide +kernel) rfl) rfl (by decide +kernel),
    (fun _ h => absurd h List.not_mem_nil)⟩⟩⟩⟩⟩⟩⟩
abbrev mk_X6_ever : Mk := (yX6_ever, cX6_ever, 2, (some .int))
def tb_X6_ever : List (Nat × Op) := [(0, o_aload 0 1), (1, o_iload 1 1), (5, o_if_ne 11), (8, o_push (.int (-1000000001)) 2), (11, o_aload 0 1), (12, o_getf 6 0), (15, o_iload 1 1), (19, o_if_eq 26), (22, o_push (.int 1) 1), (23, o_goto 27), (26, o_push (.int 0) 1)]
set_option maxRecDepth 20000 in
set_option maxHeartbeats 4000000 in
theorem sn_X6_ever {x : Cx} {d : Nat} (F : Fx x cX6_ever 2 RX6 yX6_ever.name (some .int) d) : ∀ q ∈ tb_X6_ever, Snd x 2 q :=
  List.forall_mem_cons.mpr ⟨s_aload_n F (a := 0) rfl (by decide +kernel),
    List.forall_mem_cons.mpr ⟨s_iload_n F (a := 1) rfl (by decide +kernel),
    List.forall_mem_cons.mpr ⟨s_if_ne F (off := 6) (by decide) (by decide +kernel),
    List.forall_mem_cons.mpr ⟨s_ldc F (i := 124) (aw2 207 (by decide +kernel) rfl) (by decide +kernel),
    List.forall_mem_cons.mpr ⟨s_aload_n F (a := 0) rfl (by decide +kernel),
    List.forall_mem_cons.mpr ⟨s_getf F (C := RX6) (T := TX6) (N := 9) (i := 10) inX6 rfl 0 (by decide) (aw2 27 (by decide +kernel) rfl) rfl (by decide +kernel),
    List.forall_mem_cons.mpr ⟨s_iload_n F (a := 1) rfl (by decide +kernel),
    List.forall_mem_cons.mpr ⟨s_if_eq F (off := 7) (by decide) (by decide +kernel),
    List.forall_mem_cons.mpr ⟨s_iconst F (n := 1) (by decide +kernel) (by decide +kernel),
    List.forall_mem_cons.mpr ⟨s_goto F (off := 4) (by decide) (by decide +kernel),
    List.forall_mem_cons.mpr ⟨s_iconst F (n := 0) (by decide +kernel) (by decide +kernel),
    (fun _ h => absurd h List.not_mem_nil)⟩⟩⟩⟩⟩⟩⟩⟩⟩⟩⟩
abbrev mk_X6_voices : Mk := (yX6_voices, cX6_voices, 4, (some .int))
def tb_X6_voices : List (Nat × Op) := [(0, o_push (.int (-1)) 1), (1, o_istore 1 1), (2, o_push (.int 1) 1), (3, o_istore 2 1), (4, o_iload 2 1), (5, o_push (.int 16) 2), (7, o_icmp_ge 63), (10, o_aload 0 1), (11, o_iload 2 1), (15, o_if_eq 63), (18, o_iload 1 1), (19, o_push (.int (-1)) 1), (20, o_icmp_eq 34), (23, o_iload 2 1), (27, o_iload 1 1), (31, o_icmp_ge 38), (34, o_push (.int 1) 1), (35, o_goto 39), (38, o_push (.int 0) 1), (39, o_istore 3 1), (40, o_iload 3 1), (41, o_if_eq 57), (44, o_aload 0 1), (45, o_getf 6 0), (48, o_iload 2 1), (52, o_if_eq 57), (55, o_iload 2 1), (56, o_istore 1 1), (57, o_iinc 2 1), (60, o_goto 4), (63, o_iload 1 1)]
set_option maxRecDepth 20000 in
set_option maxHeartbeats 4000000 in
theorem sn_X6_voices {x : Cx} {d : Nat} (F : Fx x cX6_voices 4 RX6 yX6_voices.name (some .int) d) : ∀ q ∈ tb_X6_voices, Snd x 4 q :=
  List.forall_mem_cons.mpr ⟨s_iconst F (n := (-1)) (by decide +kernel) (by decide +kernel),
    List.forall_mem_cons.mpr ⟨s_istore_n F (a := 1) rfl (by decide) (by decide +kernel),
    List.forall_mem_cons.mpr ⟨s_iconst F (n := 1) (by decide +kernel) (by decide +kernel),
    List.forall_mem_cons.mpr ⟨s_istore_n F (a := 2) rfl (by decide) (by decide +kernel),
    List.forall_mem_cons.mpr ⟨s_iload_n F (a := 2) rfl (by decide +kernel),
    List.forall_mem_cons.mpr ⟨s_bipush F (n := 16) (by decide +kernel) (by decide +kernel),
    List.forall_mem_cons.mpr ⟨s_icmp_ge F (off := 56) (by decide) (by decide +kernel),
    List.forall_mem_cons.mpr ⟨s_aload_n F (a := 0) rfl (by decide +kernel),
    List.forall_mem_cons.mpr ⟨s_iload_n F (a := 2) rfl (by decide +kernel),
    List.forall_mem_cons.mpr ⟨s_if_eq F (off := 48) (by decide) (by decide +kernel),
    List.forall_mem_cons.mpr ⟨s_iload_n F (a := 1) rfl (by decide +kernel),
    List.forall_mem_cons.mpr ⟨s_iconst F (n := (-1)) (by decide +kernel) (by decide +kernel),
    List.forall_mem_cons.mpr ⟨s_icmp_eq F (off := 14) (by decide) (by decide +kernel),
    List.forall_mem_cons.mpr ⟨s_iload_n F (a := 2) rfl (by decide +kernel),
    List.forall_mem_cons.mpr ⟨s_iload_n F (a := 1) rfl (by decide +kernel),
    List.forall_mem_cons.mpr ⟨s_icmp_ge F (off := 7) (by decide) (by decide +kernel),
    List.forall_mem_cons.mpr ⟨s_iconst F (n := 1) (by decide +kernel) (by decide +kernel),
    List.forall_mem_cons.mpr ⟨s_goto F (off := 4) (by decide) (by decide +kernel),
    List.forall_mem_cons.mpr ⟨s_iconst F (n := 0) (by decide +kernel) (by decide +kernel),
    List.forall_mem_cons.mpr ⟨s_istore_n F (a := 3) rfl (by decide) (by decide +kernel),
    List.forall_mem_cons.mpr ⟨s_iload_n F (a := 3) rfl (by decide +kernel),
    List.forall_mem_cons.mpr ⟨s_if_eq F (off := 16) (by decide) (by decide +kernel),
    List.forall_mem_cons.mpr ⟨s_aload_n F (a := 0) rfl (by decide +kernel),
    List.forall_mem_cons.mpr ⟨s_getf F (C := RX6) (T := TX6) (N := 9) (i := 10) inX6 rfl 0 (by decide) (aw2 27 (by decide +kernel) rfl) rfl (by decide +kernel),
    List.forall_mem_cons.mpr ⟨s_iload_n F (a := 2) rfl (by decide +kernel),
    List.forall_mem_cons.mpr ⟨s_if_eq F (off := 5) (by decide) (by decide +kernel),
    List.forall_mem_cons.mpr ⟨s_iload_n F (a := 2) rfl (by decide +kernel),
    List.forall_mem_cons.mpr ⟨s_istore_n F (a := 1) rfl (by decide) (by decide +kernel),
    List.forall_mem_cons.mpr ⟨s_iinc F (z := 1) (by decide +kernel) (by decide) (by decide +kernel),
    List.forall_mem_cons.mpr ⟨s_goto F (off := (-56)) (by decide) (by decide +kernel),
    List.forall_mem_cons.mpr ⟨s_iload_n F (a := 1) rfl (by decide +kernel),
    (fun _ h => absurd h List.not_mem_nil)⟩⟩⟩⟩⟩⟩⟩⟩⟩⟩⟩⟩⟩⟩⟩⟩⟩⟩⟩⟩⟩⟩⟩⟩⟩⟩⟩⟩⟩⟩⟩
abbrev mk_X6_answer : Mk := (yX6_answer, cX6_answer, 3, (some .int))
def tb_X6_answer : List (Nat × Op) := [(0, o_aload 0 1), (1, o_iload 1 1), (5, o_if_ne 11), (8, o_push (.int (-1000000001)) 2), (11, o_iload 2 1), (12, o_if_lt 20), (15, o_iload 2 1), (16, o_push (.int 1) 1), (17, o_icmp_le 23), (20, o_push (.int (-1000000002)) 2), (23, o_aload 0 1), (24, o_getf 6 5), (27, o_iload 1 1), (28, o_aload 0 1), (29, o_getf 6 2), (32, o_aload 0 1), (33, o_getf 6 4), (39, o_iload 2 1), (40, o_if_ne 53), (43, o_aload 0 1), (44, o_getf 6 5), (50, o_goto 60), (53, o_aload 0 1), (54, o_getf 6 5)]
set_option maxRecDepth 20000 in
set_option maxHeartbeats 4000000 in
theorem sn_X6_answer {x : Cx} {d : Nat} (F : Fx x cX6_answer 3 RX6 yX6_answer.name (some .int) d) : ∀ q ∈ tb_X6_answer, Snd x 3 q :=
  List.forall_mem_cons.mpr ⟨s_aload_n F (a := 0) rfl (by decide +kernel),
    List.forall_mem_cons.mpr ⟨s_iload_n F (a := 1) rfl (by decide +kernel),
    List.forall_mem_cons.mpr ⟨s_if_ne F (off := 6) (by decide) (by decide +kernel),
    List.forall_mem_cons.mpr ⟨s_ldc F (i := 124) (aw2 207 (by decide +kernel) rfl) (by decide +kernel),
    List.forall_mem_cons.mpr ⟨s_iload_n F (a := 2) rfl (by decide +kernel),
    List.forall_mem_cons.mpr ⟨s_if_lt F (off := 8) (by decide) (by decide +kernel),
    List.forall_mem_cons.mpr ⟨s_iload_n F (a := 2) rfl (by decide +kernel),
    List.forall_mem_cons.mpr ⟨s_iconst F (n := 1) (by decide +kernel) (by decide +kernel),
    List.forall_mem_cons.mpr ⟨s_icmp_le F (off := 6) (by decide) (by decide +kernel),
    List.forall_mem_cons.mpr ⟨s_ldc F (i := 60) (aw2 59 (by decide +kernel) rfl) (by decide +kernel),
    List.forall_mem_cons.mpr ⟨s_aload_n F (a := 0) rfl (by decide +kernel),
    List.forall_mem_cons.mpr ⟨s_getf F (C := RX6) (T := TX6) (N := 9) (i := 45) inX6 rfl 5 (by decide) (aw2 32 (by decide +kernel) rfl) rfl (by decide +kernel),
    List.forall_mem_cons.mpr ⟨s_iload_n F (a := 1) rfl (by decide +kernel),
    List.forall_mem_cons.mpr ⟨s_aload_n F (a := 0) rfl (by decide +kernel),
    List.forall_mem_cons.mpr ⟨s_getf F (C := RX6) (T := TX6) (N := 9) (i := 28) inX6 rfl 2 (by decide) (aw2 29 (by decide +kernel) rfl) rfl (by decide +kernel),
    List.forall_mem_cons.mpr ⟨s_aload_n F (a := 0) rfl (by decide +kernel),
    List.forall_mem_cons.mpr ⟨s_getf F (C := RX6) (T := TX6) (N := 9) (i := 38) inX6 rfl 4 (by decide) (aw2 31 (by decide +kernel) rfl) rfl (by decide +kernel),
    List.forall_mem_cons.mpr ⟨s_iload_n F (a := 2) rfl (by decide +kernel),
    List.forall_mem_cons.mpr ⟨s_if_ne F (off := 13) (by decide) (by decide +kernel),
    List.forall_mem_cons.mpr ⟨s_aload_n F (a := 0) rfl (by decide +kernel),
    List.forall_mem_cons.mpr ⟨s_getf F (C := RX6) (T := TX6) (N := 9) (i := 45) inX6 rfl 5 (by decide) (aw2 32 (by decide +kernel) rfl) rfl (by decide +kernel),
    List.forall_mem_cons.mpr ⟨s_goto F (off := 10) (by decide) (by decide +kernel),
    List.forall_mem_cons.mpr ⟨s_aload_n F (a := 0) rfl (by decide +kernel),
    List.forall_mem_cons.mpr ⟨s_getf F (C := RX6) (T := TX6) (N := 9) (i := 45) inX6 rfl 5 (by decide) (aw2 32 (by decide +kernel) rfl) rfl (by decide +kernel),
    (fun _ h => absurd h List.not_mem_nil)⟩⟩⟩⟩⟩⟩⟩⟩⟩⟩⟩⟩⟩⟩⟩⟩⟩⟩⟩⟩⟩⟩⟩⟩
abbrev mk_X6_laws : Mk := (yX6_laws, cX6_laws, 2, (some .int))
def tb_X6_laws : List (Nat × Op) := [(0, o_iload 1 1), (4, o_if_ne 10), (7, o_push (.int (-1000000002)) 2), (10, o_aload 0 1), (11, o_getf 6 3), (14, o_aload 0 1), (15, o_getf 6 2), (21, o_aload 0 1), (22, o_getf 6 3), (25, o_iload 1 1), (26, o_putI 5 9), (29, o_aload 0 1), (30, o_getf 6 4), (33, o_aload 0 1), (34, o_getf 6 3), (40, o_aload 0 1), (41, o_getf 6 3), (47, o_aload 0 1), (48, o_getf 6 2), (54, o_isub)]
set_option maxRecDepth 20000 in
set_option maxHeartbeats 4000000 in
theorem sn_X6_laws {x : Cx} {d : Nat} (F : Fx x cX6_laws 2 RX6 yX6_laws.name (some .int) d) : ∀ q ∈ tb_X6_laws, Snd x 2 q :=
  List.forall_mem_cons.mpr ⟨s_iload_n F (a := 1) rfl (by decide +kernel),
    List.forall_mem_cons.mpr ⟨s_if_ne F (off := 6) (by decide) (by decide +kernel),
    List.forall_mem_cons.mpr ⟨s_ldc F (i := 60) (aw2 59 (by decide +kernel) rfl) (by decide +kernel),
    List.forall_mem_cons.mpr ⟨s_aload_n F (a := 0) rfl (by decide +kernel),
    List.forall_mem_cons.mpr ⟨s_getf F (C := RX6) (T := TX6) (N := 9) (i := 32) inX6 rfl 3 (by decide) (aw2 30 (by decide +kernel) rfl) rfl (by decide +kernel),
    List.forall_mem_cons.mpr ⟨s_aload_n F (a := 0) rfl (by decide +kernel),
    List.forall_mem_cons.mpr ⟨s_getf F (C := RX6) (T := TX6) (N := 9) (i := 28) inX6 rfl 2 (by decide) (aw2 29 (by decide +kernel) rfl) rfl (by decide +kernel),
    List.forall_mem_cons.mpr ⟨s_aload_n F (a := 0) rfl (by decide +kernel),
    List.forall_mem_cons.mpr ⟨s_getf F (C := RX6) (T := TX6) (N := 9) (i := 32) inX6 rfl 3 (by decide) (aw2 30 (by decide +kernel) rfl) rfl (by decide +kernel),
    List.forall_mem_cons.mpr ⟨s_iload_n F (a := 1) rfl (by decide +kernel),
    List.forall_mem_cons.mpr ⟨s_putI F (C := RX5) (T := TX5) (N := 15) (i := 98) inX5 tyX5 tyX5_ok nmX5 rfl 9 (by decide) (aw1 139 (by decide +kernel) rfl) rfl rfl rfl (by decide +kernel),
    List.forall_mem_cons.mpr ⟨s_aload_n F (a := 0) rfl (by decide +kernel),
    List.forall_mem_cons.mpr ⟨s_getf F (C := RX6) (T := TX6) (N := 9) (i := 38) inX6 rfl 4 (by decide) (aw2 31 (by decide +kernel) rfl) rfl (by decide +kernel),
    List.forall_mem_cons.mpr ⟨s_aload_n F (a := 0) rfl (by decide +kernel),
    List.forall_mem_cons.mpr ⟨s_getf F (C := RX6) (T := TX6) (N := 9) (i := 32) inX6 rfl 3 (by decide) (aw2 30 (by decide +kernel) rfl) rfl (by decide +kernel),
    List.forall_mem_cons.mpr ⟨s_aload_n F (a := 0) rfl (by decide +kernel),
    List.forall_mem_cons.mpr ⟨s_getf F (C := RX6) (T := TX6) (N := 9) (i := 32) inX6 rfl 3 (by decide) (aw2 30 (by decide +kernel) rfl) rfl (by decide +kernel),
    List.forall_mem_cons.mpr ⟨s_aload_n F (a := 0) rfl (by decide +kernel),
    List.forall_mem_cons.mpr ⟨s_getf F (C := RX6) (T := TX6) (N := 9) (i := 28) inX6 rfl 2 (by decide) (aw2 29 (by decide +kernel) rfl) rfl (by decide +kernel),
    List.forall_mem_cons.mpr ⟨s_isub F (by decide +kernel),
    (fun _ h => absurd h List.not_mem_nil)⟩⟩⟩⟩⟩⟩⟩⟩⟩⟩⟩⟩⟩⟩⟩⟩⟩⟩⟩⟩
abbrev mk_X6_premium : Mk := (yX6_premium, cX6_premium, 7, (some .int))
def tb_X6_premium : List (Nat × Op) := [(0, o_iload 1 1), (1, o_if_lt 19), (4, o_iload 1 1), (5, o_push (.int 50) 2), (7, o_icmp_gt 19), (10, o_iload 2 1), (11, o_if_lt 19), (14, o_iload 2 1), (15, o_push (.int 1) 1), (16, o_icmp_le 22), (19, o_push (.int (-1000000002)) 2), (22, o_push (.long 1000000000) 3), (25, o_lstore 3 1), (26, o_push (.int 0) 1), (27, o_istore 5 2), (29, o_iload 5 2), (31, o_iload 1 1), (32, o_icmp_ge 59), (35, o_lload 3 1), (36, o_push (.int 100) 2), (38, o_aload 0 1), (39, o_getf 6 0), (42, o_getf 1 7), (45, o_isub), (46, o_i2l), (47, o_lmul), (48, o_push (.long 100) 3), (51, o_ldiv), (52, o_lstore 3 1), (53, o_iinc 5 1), (56, o_goto 29), (59, o_push (.long 1000000000) 3), (62, o_lload 3 1), (63, o_lsub), (64, o_lstore 5 2), (66, o_iload 2 1), (67, o_if_ne 75), (70, o_lload 5 2), (72, o_goto 90), (75, o_lload 5 2), (77, o_aload 0 1), (78, o_getf 6 2), (81, o_getf 5 10), (84, o_i2l), (85, o_lmul), (86, o_push (.long 1000000000) 3), (89, o_ldiv), (90, o_l2i)]
set_option maxRecDepth 20000 in
set_option maxHeartbeats 4000000 in
theorem sn_X6_premium {x : Cx} {d : Nat} (F : Fx x cX6_premium 7 RX6 yX6_premium.name (some .int) d) : ∀ q ∈ tb_X6_premium, Snd x 7 q :=
  List.forall_mem_cons.mpr ⟨s_iload_n F (a := 1) rfl (by decide +kernel),
    List.forall_mem_cons.mpr ⟨s_if_lt F (off := 18) (by decide) (by decide +kernel),
    List.forall_mem_cons.mpr ⟨s_iload_n F (a := 1) rfl (by decide +kernel),
    List.forall_mem_cons.mpr ⟨s_bipush F (n := 50) (by decide +kernel) (by decide +kernel),
    List.forall_mem_cons.mpr ⟨s_icmp_gt F (off := 12) (by decide) (by decide +kernel),
    List.forall_mem_cons.mpr ⟨s_iload_n F (a := 2) rfl (by decide +kernel),
    List.forall_mem_cons.mpr ⟨s_if_lt F (off := 8) (by decide) (by decide +kernel),
    List.forall_mem_cons.mpr ⟨s_iload_n F (a := 2) rfl (by decide +kernel),
    List.forall_mem_cons.mpr ⟨s_iconst F (n := 1) (by decide +kernel) (by decide +kernel),
    List.forall_mem_cons.mpr ⟨s_icmp_le F (off := 6) (by decide) (by decide +kernel),
    List.forall_mem_cons.mpr ⟨s_ldc F (i := 60) (aw2 59 (by decide +kernel) rfl) (by decide +kernel),
    List.forall_mem_cons.mpr ⟨s_ldc2 F (i := 206) (aw3 140 (by decide +kernel) rfl) (by decide +kernel),
    List.forall_mem_cons.mpr ⟨s_lstore_n F (a := 3) rfl (by decide) (by decide +kernel),
    List.forall_mem_cons.mpr ⟨s_iconst F (n := 0) (by decide +kernel) (by decide +kernel),
    List.forall_mem_cons.mpr ⟨s_istore F (by decide) (by decide +kernel),
    List.forall_mem_cons.mpr ⟨s_iload F (by decide +kernel),
    List.forall_mem_cons.mpr ⟨s_iload_n F (a := 1) rfl (by decide +kernel),
    List.forall_mem_cons.mpr ⟨s_icmp_ge F (off := 27) (by decide) (by decide +kernel),
    List.forall_mem_cons.mpr ⟨s_lload_n F (a := 3) rfl (by decide +kernel),
    List.forall_mem_cons.mpr ⟨s_bipush F (n := 100) (by decide +kernel) (by decide +kernel),
    List.forall_mem_cons.mpr ⟨s_aload_n F (a := 0) rfl (by decide +kernel),
    List.forall_mem_cons.mpr ⟨s_getf F (C := RX6) (T := TX6) (N := 9) (i := 10) inX6 rfl 0 (by decide) (aw2 27 (by decide +kernel) rfl) rfl (by decide +kernel),
    List.forall_mem_cons.mpr ⟨s_getf F (C := RX1) (T := TX1) (N := 8) (i := 107) inX1 rfl 7 (by decide) (aw1 53 (by decide +kernel) rfl) rfl (by decide +kernel),
    List.forall_mem_cons.mpr ⟨s_isub F (by decide +kernel),
    List.forall_mem_cons.mpr ⟨s_i2l F (by decide +kernel),
    List.forall_mem_cons.mpr ⟨s_lmul F (by decide +kernel),
    List.forall_mem_cons.mpr ⟨s_ldc2 F (i := 208) (aw3 141 (by decide +kernel) rfl) (by decide +kernel),
    List.forall_mem_cons.mpr ⟨s_ldiv F (by decide +kernel),
    List.forall_mem_cons.mpr ⟨s_lstore_n F (a := 3) rfl (by decide) (by decide +kernel),
    List.forall_mem_cons.mpr ⟨s_iinc F (z := 1) (by decide +kernel) (by decide) (by decide +kernel),
    List.forall_mem_cons.mpr ⟨s_goto F (off := (-27)) (by decide) (by decide +kernel),
    List.forall_mem_cons.mpr ⟨s_ldc2 F (i := 206) (aw3 140 (by decide +kernel) rfl) (by decide +kernel),
    List.forall_mem_cons.mpr ⟨s_lload_n F (a := 3) rfl (by decide +kernel),
    List.forall_mem_cons.mpr ⟨s_lsub F (by decide +kernel),
    List.forall_mem_cons.mpr ⟨s_lstore F (by decide) (by decide +kernel),
    List.forall_mem_cons.mpr ⟨s_iload_n F (a := 2) rfl (by decide +kernel),
    List.forall_mem_cons.mpr ⟨s_if_ne F (off := 8) (by decide) (by decide +kernel),
    List.forall_mem_cons.mpr ⟨s_lload F (by decide +kernel),
    List.forall_mem_cons.mpr ⟨s_goto F (off := 18) (by decide) (by decide +kernel),
    List.forall_mem_cons.mpr ⟨s_lload F (by decide +kernel),
    List.forall_mem_cons.mpr ⟨s_aload_n F (a := 0) rfl (by decide +kernel),
    List.forall_mem_cons.mpr ⟨s_getf F (C := RX6) (T := TX6) (N := 9) (i := 28) inX6 rfl 2 (by decide) (aw2 29 (by decide +kernel) rfl) rfl (by decide +kernel),
    List.forall_mem_cons.mpr ⟨s_getf F (C := RX5) (T := TX5) (N := 15) (i := 101) inX5 rfl 10 (by decide) (aw1 141 (by decide +kernel) rfl) rfl (by decide +kernel),
    List.forall_mem_cons.mpr ⟨s_i2l F (by decide +kernel),
    List.forall_mem_cons.mpr ⟨s_lmul F (by decide +kernel),
    List.forall_mem_cons.mpr ⟨s_ldc2 F (i := 206) (aw3 140 (by decide +kernel) rfl) (by decide +kernel),
    List.forall_mem_cons.mpr ⟨s_ldiv F (by decide +kernel),
    List.forall_mem_cons.mpr ⟨s_l2i F (by decide +kernel),
    (fun _ h => absurd h List.not_mem_nil)⟩⟩⟩⟩⟩⟩⟩⟩⟩⟩⟩⟩⟩⟩⟩⟩⟩⟩⟩⟩⟩⟩⟩⟩⟩⟩⟩⟩⟩⟩⟩⟩⟩⟩⟩⟩⟩⟩⟩⟩⟩⟩⟩⟩⟩⟩⟩⟩
abbrev mk_X6_record : Mk := (yX6_record, cX6_record, 3, (some .int))
def tb_X6_record : List (Nat × Op) := [(0, o_iload 1 1), (1, o_if_lt 20), (4, o_iload 1 1), (5, o_push (.int 9) 2), (7, o_icmp_gt 20), (10, o_iload 2 1), (11, o_push (.int 1) 1), (12, o_icmp_lt 20), (15, o_iload 2 1), (16, o_push (.int 4) 1), (17, o_icmp_le 23), (20, o_push (.int (-1000000002)) 2), (23, o_aload 0 1), (24, o_getf 6 6), (27, o_iload 1 1), (28, o_iload 2 1), (32, o_if_eq 45), (35, o_aload 0 1), (36, o_getf 6 6), (39, o_getf 2 3), (42, o_goto 47), (45, o_push (.int (-1000000004)) 2)]
set_option maxRecDepth 20000 in
set_option maxHeartbeats 4000000 in
theorem sn_X6_record {x : Cx} {d : Nat} (F : Fx x cX6_record 3 RX6 yX6_record.name (some .int) d) : ∀ q ∈ tb_X6_record, Snd x 3 q :=
  List.forall_mem_cons.mpr ⟨s_iload_n F (a := 1) rfl (by decide +kernel),
    List.forall_mem_cons.mpr ⟨s_if_lt F (off := 19) (by decide) (by decide +kernel),
    List.forall_mem_cons.mpr ⟨s_iload_n F (a := 1) rfl (by decide +kernel),
    List.forall_mem_cons.mpr ⟨s_bipush F (n := 9) (by decide +kernel) (by decide +kernel),
    List.forall_mem_cons.mpr ⟨s_icmp_gt F (off := 13) (by decide) (by decide +kernel),
    List.forall_mem_cons.mpr ⟨s_iload_n F (a := 2) rfl (by decide +kernel),
    List.forall_mem_cons.mpr ⟨s_iconst F (n := 1) (by decide +kernel) (by decide +kernel),
    List.forall_mem_cons.mpr ⟨s_icmp_lt F (off := 8) (by decide) (by decide +kernel),
    List.forall_mem_cons.mpr ⟨s_iload_n F (a := 2) rfl (by decide +kernel),
    List.forall_mem_cons.mpr ⟨s_iconst F (n := 4) (by decide +kernel) (by decide +kernel),
    List.forall_mem_cons.mpr ⟨s_icmp_le F (off := 6) (by decide) (by decide +kernel),
    List.forall_mem_cons.mpr ⟨s_ldc F (i := 60) (aw2 59 (by decide +kernel) rfl) (by decide +kernel),
    List.forall_mem_cons.mpr ⟨s_aload_n F (a := 0) rfl (by decide +kernel),
    List.forall_mem_cons.mpr ⟨s_getf F (C := RX6) (T := TX6) (N := 9) (i := 52) inX6 rfl 6 (by decide) (aw2 33 (by decide +kernel) rfl) rfl (by decide +kernel),
    List.forall_mem_cons.mpr ⟨s_iload_n F (a := 1) rfl (by decide +kernel),
    List.forall_mem_cons.mpr ⟨s_iload_n F (a := 2) rfl (by decide +kernel),
    List.forall_mem_cons.mpr ⟨s_if_eq F (off := 13) (by decide) (by decide +kernel),
    List.forall_mem_cons.mpr ⟨s_aload_n F (a := 0) rfl (by decide +kernel),
    List.forall_mem_cons.mpr ⟨s_getf F (C := RX6) (T := TX6) (N := 9) (i := 52) inX6 rfl 6 (by decide) (aw2 33 (by decide +kernel) rfl) rfl (by decide +kernel),
    List.forall_mem_cons.mpr ⟨s_getf F (C := RX2) (T := TX2) (N := 7) (i := 86) inX2 rfl 3 (by decide) (aw2 8 (by decide +kernel) rfl) rfl (by decide +kernel),
    List.forall_mem_cons.mpr ⟨s_goto F (off := 5) (by decide) (by decide +kernel),
    List.forall_mem_cons.mpr ⟨s_ldc F (i := 69) (aw2 64 (by decide +kernel) rfl) (by decide +kernel),
    (fun _ h => absurd h List.not_mem_nil)⟩⟩⟩⟩⟩⟩⟩⟩⟩⟩⟩⟩⟩⟩⟩⟩⟩⟩⟩⟩⟩⟩
abbrev mk_X6_tear : Mk := (yX6_tear, cX6_tear, 2, (some .int))
def tb_X6_tear : List (Nat × Op) := [(0, o_aload 0 1), (1, o_getf 6 6), (4, o_getf 2 3), (7, o_istore 1 1), (8, o_aload 0 1), (9, o_getf 6 6), (12, o_push (.int 0) 1), (13, o_putI 2 3), (16, o_iload 1 1)]
set_option maxRecDepth 20000 in
set_option maxHeartbeats 4000000 in
theorem sn_X6_tear {x : Cx} {d : Nat} (F : Fx x cX6_tear 2 RX6 yX6_tear.name (some .int) d) : ∀ q ∈ tb_X6_tear, Snd x 2 q :=
  List.forall_mem_cons.mpr ⟨s_aload_n F (a := 0) rfl (by decide +kernel),
    List.forall_mem_cons.mpr ⟨s_getf F (C := RX6) (T := TX6) (N := 9) (i := 52) inX6 rfl 6 (by decide) (aw2 33 (by decide +kernel) rfl) rfl (by decide +kernel),
    List.forall_mem_cons.mpr ⟨s_getf F (C := RX2) (T := TX2) (N := 7) (i := 86) inX2 rfl 3 (by decide) (aw2 8 (by decide +kernel) rfl) rfl (by decide +kernel),
    List.forall_mem_cons.mpr ⟨s_istore_n F (a := 1) rfl (by decide) (by decide +kernel),
    List.forall_mem_cons.mpr ⟨s_aload_n F (a := 0) rfl (by decide +kernel),
    List.forall_mem_cons.mpr ⟨s_getf F (C := RX6) (T := TX6) (N := 9) (i := 52) inX6 rfl 6 (by decide) (aw2 33 (by decide +kernel) rfl) rfl (by decide +kernel),
    List.forall_mem_cons.mpr ⟨s_iconst F (n := 0) (by decide +kernel) (by decide +kernel),
    List.forall_mem_cons.mpr ⟨s_putI F (C := RX2) (T := TX2) (N := 7) (i := 86) inX2 tyX2 tyX2_ok nmX2 rfl 3 (by decide) (aw2 8 (by decide +kernel) rfl) rfl rfl rfl (by decide +kernel),
    List.forall_mem_cons.mpr ⟨s_iload_n F (a := 1) rfl (by decide +kernel),
    (fun _ h => absurd h List.not_mem_nil)⟩⟩⟩⟩⟩⟩⟩⟩⟩
abbrev mk_X6_fits : Mk := (yX6_fits, cX6_fits, 1, (some .int))
def tb_X6_fits : List (Nat × Op) := [(0, o_aload 0 1), (1, o_getf 6 6), (4, o_aload 0 1), (5, o_getf 6 2)]
set_option maxRecDepth 20000 in
set_option maxHeartbeats 4000000 in
theorem sn_X6_fits {x : Cx} {d : Nat} (F : Fx x cX6_fits 1 RX6 yX6_fits.name (some .int) d) : ∀ q ∈ tb_X6_fits, Snd x 1 q :=
  List.forall_mem_cons.mpr ⟨s_aload_n F (a := 0) rfl (by decide +kernel),
    List.forall_mem_cons.mpr ⟨s_getf F (C := RX6) (T := TX6) (N := 9) (i := 52) inX6 rfl 6 (by decide) (aw2 33 (by decide +kernel) rfl) rfl (by decide +kernel),
    List.forall_mem_cons.mpr ⟨s_aload_n F (a := 0) rfl (by decide +kernel),
    List.forall_mem_cons.mpr ⟨s_getf F (C := RX6) (T := TX6) (N := 9) (i := 28) inX6 rfl 2 (by decide) (aw2 29 (by decide +kernel) rfl) rfl (by decide +kernel),
    (fun _ h => absurd h List.not_mem_nil)⟩⟩⟩⟩
abbrev mk_X6_sure : Mk := (yX6_sure, cX6_sure, 2, (some .int))
def tb_X6_sure : List (Nat × Op) := [(0, o_iload 1 1), (1, o_if_lt 15), (4, o_iload 1 1), (5, o_aload 0 1), (6, o_getf 6 6), (9, o_getf 2 3), (12, o_icmp_lt 18), (15, o_push (.int (-1000000002)) 2), (18, o_aload 0 1), (19, o_getf 6 6), (22, o_iload 1 1), (23, o_aload 0 1), (24, o_getf 6 6), (27, o_aload 0 1), (28, o_getf 6 2)]
set_option maxRecDepth 20000 in
set_option maxHeartbeats 4000000 in
theorem sn_X6_sure {x : Cx} {d : Nat} (F : Fx x cX6_sure 2 RX6 yX6_sure.name (some .int) d) : ∀ q ∈ tb_X6_sure, Snd x 2 q :=
  List.forall_mem_cons.mpr ⟨s_iload_n F (a := 1) rfl (by decide +kernel),
    List.forall_mem_cons.mpr ⟨s_if_lt F (off := 14) (by decide) (by decide +kernel),
    List.forall_mem_cons.mpr ⟨s_iload_n F (a := 1) rfl (by decide +kernel),
    List.forall_mem_cons.mpr ⟨s_aload_n F (a := 0) rfl (by decide +kernel),
    List.forall_mem_cons.mpr ⟨s_getf F (C := RX6) (T := TX6) (N := 9) (i := 52) inX6 rfl 6 (by decide) (aw2 33 (by decide +kernel) rfl) rfl (by decide +kernel),
    List.forall_mem_cons.mpr ⟨s_getf F (C := RX2) (T := TX2) (N := 7) (i := 86) inX2 rfl 3 (by decide) (aw2 8 (by decide +kernel) rfl) rfl (by decide +kernel),
    List.forall_mem_cons.mpr ⟨s_icmp_lt F (off := 6) (by decide) (by decide +kernel),
    List.forall_mem_cons.mpr ⟨s_ldc F (i := 60) (aw2 59 (by decide +kernel) rfl) (by decide +kernel),
    List.forall_mem_cons.mpr ⟨s_aload_n F (a := 0) rfl (by decide +kernel),
    List.forall_mem_cons.mpr ⟨s_getf F (C := RX6) (T := TX6) (N := 9) (i := 52) inX6 rfl 6 (by decide) (aw2 33 (by decide +kernel) rfl) rfl (by decide +kernel),
    List.forall_mem_cons.mpr ⟨s_iload_n F (a := 1) rfl (by decide +kernel),
    List.forall_mem_cons.mpr ⟨s_aload_n F (a := 0) rfl (by decide +kernel),
    List.forall_mem_cons.mpr ⟨s_getf F (C := RX6) (T := TX6) (N := 9) (i := 52) inX6 rfl 6 (by decide) (aw2 33 (by decide +kernel) rfl) rfl (by decide +kernel),
    List.forall_mem_cons.mpr ⟨s_aload_n F (a := 0) rfl (by decide +kernel),
    List.forall_mem_cons.mpr ⟨s_getf F (C := RX6) (T := TX6) (N := 9) (i := 28) inX6 rfl 2 (by decide) (aw2 29 (by decide +kernel) rfl) rfl (by decide +kernel),
    (fun _ h => absurd h List.not_mem_nil)⟩⟩⟩⟩⟩⟩⟩⟩⟩⟩⟩⟩⟩⟩⟩
abbrev mk_X6_seed : Mk := (yX6_seed, cX6_seed, 3, (some .int))
def tb_X6_seed : List (Nat × Op) := [(0, o_iload 1 1), (1, o_if_ge 7), (4, o_push (.int (-1000000002)) 2), (7, o_aload 0 1), (8, o_getf 6 2), (11, o_getf 5 12), (14, o_istore 2 1), (15, o_aload 0 1), (16, o_getf 6 2), (19, o_iload 1 1), (20, o_putI 5 12), (23, o_iload 2 1)]
set_option maxRecDepth 20000 in
set_option maxHeartbeats 4000000 in
theorem sn_X6_seed {x : Cx} {d : Nat} (F : Fx x cX6_seed 3 RX6 yX6_seed.name (some .int) d) : ∀ q ∈ tb_X6_seed, Snd x 3 q :=
  List.forall_mem_cons.mpr ⟨s_iload_n F (a := 1) rfl (by decide +kernel),
    List.forall_mem_cons.mpr ⟨s_if_ge F (off := 6) (by decide) (by decide +kernel),
    List.forall_mem_cons.mpr ⟨s_ldc F (i := 60) (aw2 59 (by decide +kernel) rfl) (by decide +kernel),
    List.forall_mem_cons.mpr ⟨s_aload_n F (a := 0) rfl (by decide +kernel),
    List.forall_mem_cons.mpr ⟨s_getf F (C := RX6) (T := TX6) (N := 9) (i := 28) inX6 rfl 2 (by decide) (aw2 29 (by decide +kernel) rfl) rfl (by decide +kernel),
    List.forall_mem_cons.mpr ⟨s_getf F (C := RX5) (T := TX5) (N := 15) (i := 220) inX5 rfl 12 (by decide) (aw1 145 (by decide +kernel) rfl) rfl (by decide +kernel),
    List.forall_mem_cons.mpr ⟨s_istore_n F (a := 2) rfl (by decide) (by decide +kernel),
    List.forall_mem_cons.mpr ⟨s_aload_n F (a := 0) rfl (by decide +kernel),
    List.forall_mem_cons.mpr ⟨s_getf F (C := RX6) (T := TX6) (N := 9) (i := 28) inX6 rfl 2 (by decide) (aw2 29 (by decide +kernel) rfl) rfl (by decide +kernel),
    List.forall_mem_cons.mpr ⟨s_iload_n F (a := 1) rfl (by decide +kernel),
    List.forall_mem_cons.mpr ⟨s_putI F (C := RX5) (T := TX5) (N := 15) (i := 220) inX5 tyX5 tyX5_ok nmX5 rfl 12 (by decide) (aw1 145 (by decide +kernel) rfl) rfl rfl rfl (by decide +kernel),
    List.forall_mem_cons.mpr ⟨s_iload_n F (a := 2) rfl (by decide +kernel),
    (fun _ h => absurd h List.not_mem_nil)⟩⟩⟩⟩⟩⟩⟩⟩⟩⟩⟩⟩
abbrev mk_X6_keep : Mk := (yX6_keep, cX6_keep, 3, (some .int))
def tb_X6_keep : List (Nat × Op) := [(0, o_aload 0 1), (1, o_iload 1 1), (5, o_astore 2 1), (6, o_aload 2 1), (7, o_ifnonnull 13), (10, o_push (.int (-1000000001)) 2), (13, o_aload 2 1), (14, o_aload 0 1), (15, o_getf 6 2), (21, o_aload 0 1), (22, o_dup), (23, o_getf 6 8), (26, o_push (.int 1) 1), (27, o_iload 1 1), (28, o_ishl), (29, o_ior), (30, o_putI 6 8), (33, o_push (.int 1) 1)]
set_option maxRecDepth 20000 in
set_option maxHeartbeats 4000000 in
theorem sn_X6_keep {x : Cx} {d : Nat} (F : Fx x cX6_keep 3 RX6 yX6_keep.name (some .int) d) : ∀ q ∈ tb_X6_keep, Snd x 3 q :=
  List.forall_mem_cons.mpr ⟨s_aload_n F (a := 0) rfl (by decide +kernel),
    List.forall_mem_cons.mpr ⟨s_iload_n F (a := 1) rfl (by decide +kernel),
    List.forall_mem_cons.mpr ⟨s_astore_n F (a := 2) rfl (by decide) (by decide +kernel),
    List.forall_mem_cons.mpr ⟨s_aload_n F (a := 2) rfl (by decide +kernel),
    List.forall_mem_cons.mpr ⟨s_ifnonnull F (off := 6) (by decide) (by decide +kernel),
    List.forall_mem_cons.mpr ⟨s_ldc F (i := 124) (aw2 207 (by decide +kernel) rfl) (by decide +kernel),
    List.forall_mem_cons.mpr ⟨s_aload_n F (a := 2) rfl (by decide +kernel),
    List.forall_mem_cons.mpr ⟨s_aload_n F (a := 0) rfl (by decide +kernel),
    List.forall_mem_cons.mpr ⟨s_getf F (C := RX6) (T := TX6) (N := 9) (i := 28) inX6 rfl 2 (by decide) (aw2 29 (by decide +kernel) rfl) rfl (by decide +kernel),
    List.forall_mem_cons.mpr ⟨s_aload_n F (a := 0) rfl (by decide +kernel),
    List.forall_mem_cons.mpr ⟨s_dup F (by decide +kernel),
    List.forall_mem_cons.mpr ⟨s_getf F (C := RX6) (T := TX6) (N := 9) (i := 89) inX6 rfl 8 (by decide) (aw2 35 (by decide +kernel) rfl) rfl (by decide +kernel),
    List.forall_mem_cons.mpr ⟨s_iconst F (n := 1) (by decide +kernel) (by decide +kernel),
    List.forall_mem_cons.mpr ⟨s_iload_n F (a := 1) rfl (by decide +kernel),
    List.forall_mem_cons.mpr ⟨s_ishl F (by decide +kernel),
    List.forall_mem_cons.mpr ⟨s_ior F (by decide +kernel),
    List.forall_mem_cons.mpr ⟨s_putI F (C := RX6) (T := TX6) (N := 9) (i := 89) inX6 tyX6 tyX6_ok nmX6 rfl 8 (by decide) (aw2 35 (by decide +kernel) rfl) rfl rfl rfl (by decide +kernel),
    List.forall_mem_cons.mpr ⟨s_iconst F (n := 1) (by decide +kernel) (by decide +kernel),
    (fun _ h => absurd h List.not_mem_nil)⟩⟩⟩⟩⟩⟩⟩⟩⟩⟩⟩⟩⟩⟩⟩⟩⟩⟩
abbrev mk_X6_goBack : Mk := (yX6_goBack, cX6_goBack, 3, (some .int))
def tb_X6_goBack : List (Nat × Op) := [(0, o_aload 0 1), (1, o_iload 1 1), (5, o_astore 2 1), (6, o_aload 2 1), (7, o_ifnonnull 13), (10, o_push (.int (-1000000001)) 2), (13, o_aload 0 1), (14, o_getf 6 8), (17, o_iload 1 1), (21, o_if_ne 27), (24, o_push (.int (-1000000003)) 2), (27, o_aload 0 1), (28, o_getf 6 2), (31, o_aload 2 1), (35, o_push (.int 1) 1)]
set_option maxRecDepth 20000 in
set_option maxHeartbeats 4000000 in
theorem sn_X6_goBack {x : Cx} {d : Nat} (F : Fx x cX6_goBack 3 RX6 yX6_goBack.name (some .int) d) : ∀ q ∈ tb_X6_goBack, Snd x 3 q :=
  List.forall_mem_cons.mpr ⟨s_aload_n F (a := 0) rfl (by decide +kernel),
    List.forall_mem_cons.mpr ⟨s_iload_n F (a := 1) rfl (by decide +kernel),
    List.forall_mem_cons.mpr ⟨s_astore_n F (a := 2) rfl (by decide) (by decide +kernel),
    List.forall_mem_cons.mpr ⟨s_aload_n F (a := 2) rfl (by decide +kernel),
    List.forall_mem_cons.mpr ⟨s_ifnonnull F (off := 6) (by decide) (by decide +kernel),
    List.forall_mem_cons.mpr ⟨s_ldc F (i := 124) (aw2 207 (by decide +kernel) rfl) (by decide +kernel),
    List.forall_mem_cons.mpr ⟨s_aload_n F (a := 0) rfl (by decide +kernel),
    List.forall_mem_cons.mpr ⟨s_getf F (C := RX6) (T := TX6) (N := 9) (i := 89) inX6 rfl 8 (by decide) (aw2 35 (by decide +kernel) rfl) rfl (by decide +kernel),
    List.forall_mem_cons.mpr ⟨s_iload_n F (a := 1) rfl (by decide +kernel),
    List.forall_mem_cons.mpr ⟨s_if_ne F (off := 6) (by decide) (by decide +kernel),
    List.forall_mem_cons.mpr ⟨s_ldc F (i := 163) (aw3 22 (by decide +kernel) rfl) (by decide +kernel),
    List.forall_mem_cons.mpr ⟨s_aload_n F (a := 0) rfl (by decide +kernel),
    List.forall_mem_cons.mpr ⟨s_getf F (C := RX6) (T := TX6) (N := 9) (i := 28) inX6 rfl 2 (by decide) (aw2 29 (by decide +kernel) rfl) rfl (by decide +kernel),
    List.forall_mem_cons.mpr ⟨s_aload_n F (a := 2) rfl (by decide +kernel),
    List.forall_mem_cons.mpr ⟨s_iconst F (n := 1) (by decide +kernel) (by decide +kernel),
    (fun _ h => absurd h List.not_mem_nil)⟩⟩⟩⟩⟩⟩⟩⟩⟩⟩⟩⟩⟩⟩⟩
abbrev mk_X6_imageOf : Mk := (yX6_imageOf, cX6_imageOf, 2, (some (.object "SilenceFines$Sitting")))
def tb_X6_imageOf : List (Nat × Op) := [(0, o_iload 1 1), (1, o_if_lt 18), (4, o_iload 1 1), (5, o_push (.int 2) 1), (6, o_icmp_ge 18), (9, o_aload 0 1), (10, o_getf 6 7), (13, o_iload 1 1), (14, o_aald), (15, o_goto 19), (18, o_push .null 1)]
set_option maxRecDepth 20000 in
set_option maxHeartbeats 4000000 in
theorem sn_X6_imageOf {x : Cx} {d : Nat} (F : Fx x cX6_imageOf 2 RX6 yX6_imageOf.name (some (.object "SilenceFines$Sitting")) d) : ∀ q ∈ tb_X6_imageOf, Snd x 2 q :=
  List.forall_mem_cons.mpr ⟨s_iload_n F (a := 1) rfl (by decide +kernel),
    List.forall_mem_cons.mpr ⟨s_if_lt F (off := 17) (by decide) (by decide +kernel),
    List.forall_mem_cons.mpr ⟨s_iload_n F (a := 1) rfl (by decide +kernel),
    List.forall_mem_cons.mpr ⟨s_iconst F (n := 2) (by decide +kernel) (by decide +kernel),
    List.forall_mem_cons.mpr ⟨s_icmp_ge F (off := 12) (by decide) (by decide +kernel),
    List.forall_mem_cons.mpr ⟨s_aload_n F (a := 0) rfl (by decide +kernel),
    List.forall_mem_cons.mpr ⟨s_getf F (C := RX6) (T := TX6) (N := 9) (i := 56) inX6 rfl 7 (by decide) (aw2 34 (by decide +kernel) rfl) rfl (by decide +kernel),
    List.forall_mem_cons.mpr ⟨s_iload_n F (a := 1) rfl (by decide +kernel),
    List.forall_mem_cons.mpr ⟨s_aald F (by decide +kernel),
    List.forall_mem_cons.mpr ⟨s_goto F (off := 4) (by decide) (by decide +kernel),
    List.forall_mem_cons.mpr ⟨s_null F (by decide +kernel),
    (fun _ h => absurd h List.not_mem_nil)⟩⟩⟩⟩⟩⟩⟩⟩⟩⟩⟩
abbrev mk_X6_isMember : Mk := (yX6_isMember, cX6_isMember, 2, (some .boolean))
def tb_X6_isMember : List (Nat × Op) := [(0, o_iload 1 1), (1, o_if_lt 24), (4, o_iload 1 1), (5, o_push (.int 4) 1), (6, o_icmp_ge 24), (9, o_iload 1 1), (10, o_aload 0 1), (11, o_getf 6 0), (14, o_getf 1 3), (17, o_icmp_ge 24), (20, o_push (.int 1) 1), (21, o_goto 25), (24, o_push (.int 0) 1)]
set_option maxRecDepth 20000 in
set_option maxHeartbeats 4000000 in
theorem sn_X6_isMember {x : Cx} {d : Nat} (F : Fx x cX6_isMember 2 RX6 yX6_isMember.name (some .boolean) d) : ∀ q ∈ tb_X6_isMember, Snd x 2 q :=
  List.forall_mem_cons.mpr ⟨s_iload_n F (a := 1) rfl (by decide +kernel),
    List.forall_mem_cons.mpr ⟨s_if_lt F (off := 23) (by decide) (by decide +kernel),
    List.forall_mem_cons.mpr ⟨s_iload_n F (a := 1) rfl (by decide +kernel),
    List.forall_mem_cons.mpr ⟨s_iconst F (n := 4) (by decide +kernel) (by decide +kernel),
    List.forall_mem_cons.mpr ⟨s_icmp_ge F (off := 18) (by decide) (by decide +kernel),
    List.forall_mem_cons.mpr ⟨s_iload_n F (a := 1) rfl (by decide +kernel),
    List.forall_mem_cons.mpr ⟨s_aload_n F (a := 0) rfl (by decide +kernel),
    List.forall_mem_cons.mpr ⟨s_getf F (C := RX6) (T := TX6) (N := 9) (i := 10) inX6 rfl 0 (by decide) (aw2 27 (by decide +kernel) rfl) rfl (by decide +kernel),
    List.forall_mem_cons.mpr ⟨s_getf F (C := RX1) (T := TX1) (N := 8) (i := 92) inX1 rfl 3 (by decide) (aw1 40 (by decide +kernel) rfl) rfl (by decide +kernel),
    List.forall_mem_cons.mpr ⟨s_icmp_ge F (off := 7) (by decide) (by decide +kernel),
    List.forall_mem_cons.mpr ⟨s_iconst F (n := 1) (by decide +kernel) (by decide +kernel),
    List.forall_mem_cons.mpr ⟨s_goto F (off := 4) (by decide) (by decide +kernel),
    List.forall_mem_cons.mpr ⟨s_iconst F (n := 0) (by decide +kernel) (by decide +kernel),
    (fun _ h => absurd h List.not_mem_nil)⟩⟩⟩⟩⟩⟩⟩⟩⟩⟩⟩⟩⟩
abbrev mk_X6_areMembers : Mk := (yX6_areMembers, cX6_areMembers, 2, (some .boolean))
def tb_X6_areMembers : List (Nat × Op) := [(0, o_iload 1 1), (1, o_if_lt 21), (4, o_iload 1 1), (5, o_push (.int 1) 1), (6, o_aload 0 1), (7, o_getf 6 0), (10, o_getf 1 3), (13, o_ishl), (14, o_icmp_ge 21), (17, o_push (.int 1) 1), (18, o_goto 22), (21, o_push (.int 0) 1)]
set_option maxRecDepth 20000 in
set_option maxHeartbeats 4000000 in
theorem sn_X6_areMembers {x : Cx} {d : Nat} (F : Fx x cX6_areMembers 2 RX6 yX6_areMembers.name (some .boolean) d) : ∀ q ∈ tb_X6_areMembers, Snd x 2 q :=
  List.forall_mem_cons.mpr ⟨s_iload_n F (a := 1) rfl (by decide +kernel),
    List.forall_mem_cons.mpr ⟨s_if_lt F (off := 20) (by decide) (by decide +kernel),
    List.forall_mem_cons.mpr ⟨s_iload_n F (a := 1) rfl (by decide +kernel),
    List.forall_mem_cons.mpr ⟨s_iconst F (n := 1) (by decide +kernel) (by decide +kernel),
    List.forall_mem_cons.mpr ⟨s_aload_n F (a := 0) rfl (by decide +kernel),
    List.forall_mem_cons.mpr ⟨s_getf F (C := RX6) (T := TX6) (N := 9) (i := 10) inX6 rfl 0 (by decide) (aw2 27 (by decide +kernel) rfl) rfl (by decide +kernel),
    List.forall_mem_cons.mpr ⟨s_getf F (C := RX1) (T := TX1) (N := 8) (i := 92) inX1 rfl 3 (by decide) (aw1 40 (by decide +kernel) rfl) rfl (by decide +kernel),
    List.forall_mem_cons.mpr ⟨s_ishl F (by decide +kernel),
    List.forall_mem_cons.mpr ⟨s_icmp_ge F (off := 7) (by decide) (by decide +kernel),
    List.forall_mem_cons.mpr ⟨s_iconst F (n := 1) (by decide +kernel) (by decide +kernel),
    List.forall_mem_cons.mpr ⟨s_goto F (off := 4) (by decide) (by decide +kernel),
    List.forall_mem_cons.mpr ⟨s_iconst F (n := 0) (by decide +kernel) (by decide +kernel),
    (fun _ h => absurd h List.not_mem_nil)⟩⟩⟩⟩⟩⟩⟩⟩⟩⟩⟩⟩
abbrev mk_X6_isKind : Mk := (yX6_isKind, cX6_isKind, 1, (some .boolean))
def tb_X6_isKind : List (Nat × Op) := [(0, o_iload 0 1), (1, o_if_lt 13), (4, o_iload 0 1), (5, o_push (.int 2) 1), (6, o_icmp_gt 13), (9, o_push (.int 1) 1), (10, o_goto 14), (13, o_push (.int 0) 1)]
set_option maxRecDepth 20000 in
set_option maxHeartbeats 4000000 in
theorem sn_X6_isKind {x : Cx} {d : Nat} (F : Fx x cX6_isKind 1 RX6 yX6_isKind.name (some .boolean) d) : ∀ q ∈ tb_X6_isKind, Snd x 1 q :=
  List.forall_mem_cons.mpr ⟨s_iload_n F (a := 0) rfl (by decide +kernel),
    List.forall_mem_cons.mpr ⟨s_if_lt F (off := 12) (by decide) (by decide +kernel),
    List.forall_mem_cons.mpr ⟨s_iload_n F (a := 0) rfl (by decide +kernel),
    List.forall_mem_cons.mpr ⟨s_iconst F (n := 2) (by decide +kernel) (by decide +kernel),
    List.forall_mem_cons.mpr ⟨s_icmp_gt F (off := 7) (by decide) (by decide +kernel),
    List.forall_mem_cons.mpr ⟨s_iconst F (n := 1) (by decide +kernel) (by decide +kernel),
    List.forall_mem_cons.mpr ⟨s_goto F (off := 4) (by decide) (by decide +kernel),
    List.forall_mem_cons.mpr ⟨s_iconst F (n := 0) (by decide +kernel) (by decide +kernel),
    (fun _ h => absurd h List.not_mem_nil)⟩⟩⟩⟩⟩⟩⟩⟩
abbrev mk_X6_has : Mk := (yX6_has, cX6_has, 2, (some .boolean))
def tb_X6_has : List (Nat × Op) := [(0, o_iload 0 1), (1, o_iload 1 1), (2, o_ishr), (3, o_push (.int 1) 1), (4, o_iand), (5, o_push (.int 1) 1), (6, o_icmp_ne 13), (9, o_push (.int 1) 1), (10, o_goto 14), (13, o_push (.int 0) 1)]
set_option maxRecDepth 20000 in
set_option maxHeartbeats 4000000 in
theorem sn_X6_has {x : Cx} {d : Nat} (F : Fx x cX6_has 2 RX6 yX6_has.name (some .boolean) d) : ∀ q ∈ tb_X6_has, Snd x 2 q :=
  List.forall_mem_cons.mpr ⟨s_iload_n F (a := 0) rfl (by decide +kernel),
    List.forall_mem_cons.mpr ⟨s_iload_n F (a := 1) rfl (by decide +kernel),
    List.forall_mem_cons.mpr ⟨s_ishr F (by decide +kernel),
    List.forall_mem_cons.mpr ⟨s_iconst F (n := 1) (by decide +kernel) (by decide +kernel),
    List.forall_mem_cons.mpr ⟨s_iand F (by decide +kernel),
    List.forall_mem_cons.mpr ⟨s_iconst F (n := 1) (by decide +kernel) (by decide +kernel),
    List.forall_mem_cons.mpr ⟨s_icmp_ne F (off := 7) (by decide) (by decide +kernel),
    List.forall_mem_cons.mpr ⟨s_iconst F (n := 1) (by decide +kernel) (by decide +kernel),
    List.forall_mem_cons.mpr ⟨s_goto F (off := 4) (by decide) (by decide +kernel),
    List.forall_mem_cons.mpr ⟨s_iconst F (n := 0) (by decide +kernel) (by decide +kernel),
    (fun _ h => absurd h List.not_mem_nil)⟩⟩⟩⟩⟩⟩⟩⟩⟩⟩
