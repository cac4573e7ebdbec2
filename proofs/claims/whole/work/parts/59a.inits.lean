theorem agT {a b : List Nat} {ad ad1 ad2 : Nat → Nat} (h1 : ∀ i, i ∉ a → ad1 i = ad i) (h2 : ∀ i, i ∉ b → ad2 i = ad1 i) : ∀ i, i ∉ a ++ b → ad2 i = ad i := fun i hi => (h2 i (fun h => hi (List.mem_append_right _ h))).trans (h1 i (fun h => hi (List.mem_append_left _ h)))
abbrev mk_X1_init : Mk := (yX1_init, cX1_init, 1, none)
def tb_X1_init : List (Nat × Op) := [(0, o_aload 0 1), (1, o_objI), (4, o_aload 0 1), (5, o_push (.int 4) 1), (8, o_putA 1 0), (11, o_aload 0 1), (12, o_push (.int 4) 1), (15, o_putA 1 1), (18, o_aload 0 1), (19, o_push (.int 4) 1), (22, o_putA 1 2), (25, o_aload 0 1), (26, o_push (.int 0) 1), (27, o_putI 1 4), (30, o_aload 0 1), (31, o_push (.int 5) 1), (32, o_putI 1 5), (35, o_aload 0 1), (36, o_push (.int 1) 1), (37, o_putI 1 6)]
set_option maxRecDepth 20000 in
set_option maxHeartbeats 4000000 in
theorem sn_X1_init {x : Cx} {d : Nat} (F : Fx x cX1_init 1 RX1 yX1_init.name none d) (hd1 : 1 ≤ d) : ∀ q ∈ tb_X1_init, Snd x 1 q :=
  List.forall_mem_cons.mpr ⟨s_aload_n F (a := 0) rfl (by decide +kernel),
    List.forall_mem_cons.mpr ⟨s_objI F (i := 3) hd1 (aw1 28 (by decide +kernel) rfl) (aw1 21 (by decide +kernel) rfl) (aw1 22 (by decide +kernel) rfl) (by decide +kernel),
    List.forall_mem_cons.mpr ⟨s_aload_n F (a := 0) rfl (by decide +kernel),
    List.forall_mem_cons.mpr ⟨s_iconst F (n := 4) (by decide +kernel) (by decide +kernel),
    List.forall_mem_cons.mpr ⟨s_putA F (C := RX1) (T := TX1) (N := 8) (i := 9) inX1 tyX1 tyX1_ok nmX1 rfl 0 (by decide) (aw1 29 (by decide +kernel) rfl) rfl rfl rfl rfl (ty := tyX1 0) (tyX1_ok 0 (by decide)) (fun _ => rfl) (fun _ => rfl) (by decide +kernel),
    List.forall_mem_cons.mpr ⟨s_aload_n F (a := 0) rfl (by decide +kernel),
    List.forall_mem_cons.mpr ⟨s_iconst F (n := 4) (by decide +kernel) (by decide +kernel),
    List.forall_mem_cons.mpr ⟨s_putA F (C := RX1) (T := TX1) (N := 8) (i := 15) inX1 tyX1 tyX1_ok nmX1 rfl 1 (by decide) (aw1 33 (by decide +kernel) rfl) rfl rfl rfl rfl (ty := tyX1 1) (tyX1_ok 1 (by decide)) (fun _ => rfl) (fun _ => rfl) (by decide +kernel),
    List.forall_mem_cons.mpr ⟨s_aload_n F (a := 0) rfl (by decide +kernel),
    List.forall_mem_cons.mpr ⟨s_iconst F (n := 4) (by decide +kernel) (by decide +kernel),
    List.forall_mem_cons.mpr ⟨s_putA F (C := RX1) (T := TX1) (N := 8) (i := 18) inX1 tyX1 tyX1_ok nmX1 rfl 2 (by decide) (aw1 37 (by decide +kernel) rfl) rfl rfl rfl rfl (ty := tyX1 2) (tyX1_ok 2 (by decide)) (fun _ => rfl) (fun _ => rfl) (by decide +kernel),
    List.forall_mem_cons.mpr ⟨s_aload_n F (a := 0) rfl (by decide +kernel),
    List.forall_mem_cons.mpr ⟨s_iconst F (n := 0) (by decide +kernel) (by decide +kernel),
    List.forall_mem_cons.mpr ⟨s_putI F (C := RX1) (T := TX1) (N := 8) (i := 21) inX1 tyX1 tyX1_ok nmX1 rfl 4 (by decide) (aw1 43 (by decide +kernel) rfl) rfl rfl rfl (by decide +kernel),
    List.forall_mem_cons.mpr ⟨s_aload_n F (a := 0) rfl (by decide +kernel),
    List.forall_mem_cons.mpr ⟨s_iconst F (n := 5) (by decide +kernel) (by decide +kernel),
    List.forall_mem_cons.mpr ⟨s_putI F (C := RX1) (T := TX1) (N := 8) (i := 25) inX1 tyX1 tyX1_ok nmX1 rfl 5 (by decide) (aw1 46 (by decide +kernel) rfl) rfl rfl rfl (by decide +kernel),
    List.forall_mem_cons.mpr ⟨s_aload_n F (a := 0) rfl (by decide +kernel),
    List.forall_mem_cons.mpr ⟨s_iconst F (n := 1) (by decide +kernel) (by decide +kernel),
    List.forall_mem_cons.mpr ⟨s_putI F (C := RX1) (T := TX1) (N := 8) (i := 28) inX1 tyX1 tyX1_ok nmX1 rfl 6 (by decide) (aw1 49 (by decide +kernel) rfl) rfl rfl rfl (by decide +kernel),
    (fun _ h => absurd h List.not_mem_nil)⟩⟩⟩⟩⟩⟩⟩⟩⟩⟩⟩⟩⟩⟩⟩⟩⟩⟩⟩⟩
abbrev mk_X4_init : Mk := (yX4_init, cX4_init, 1, none)
def tb_X4_init : List (Nat × Op) := [(0, o_aload 0 1), (1, o_objI), (4, o_aload 0 1), (8, o_dup), (12, o_putA 4 0), (15, o_aload 0 1), (16, o_push (.int (-1)) 1), (17, o_putI 4 2), (20, o_aload 0 1), (21, o_push (.int 400) 3), (26, o_putA 4 3)]
set_option maxRecDepth 20000 in
set_option maxHeartbeats 4000000 in
theorem sn_X4_init {x : Cx} {d : Nat} (F : Fx x cX4_init 1 RX4 yX4_init.name none d) (hd1 : 1 ≤ d) : ∀ q ∈ tb_X4_init, Snd x 1 q :=
  List.forall_mem_cons.mpr ⟨s_aload_n F (a := 0) rfl (by decide +kernel),
    List.forall_mem_cons.mpr ⟨s_objI F (i := 3) hd1 (aw1 79 (by decide +kernel) rfl) (aw1 21 (by decide +kernel) rfl) (aw1 22 (by decide +kernel) rfl) (by decide +kernel),
    List.forall_mem_cons.mpr ⟨s_aload_n F (a := 0) rfl (by decide +kernel),
    List.forall_mem_cons.mpr ⟨s_dup F (by decide +kernel),
    List.forall_mem_cons.mpr ⟨s_putA F (C := RX4) (T := TX4) (N := 8) (i := 12) inX4 tyX4 tyX4_ok nmX4 rfl 0 (by decide) (aw1 82 (by decide +kernel) rfl) rfl rfl rfl rfl (ty := tyX4 0) (tyX4_ok 0 (by decide)) (fun _ => rfl) (fun _ => rfl) (by decide +kernel),
    List.forall_mem_cons.mpr ⟨s_aload_n F (a := 0) rfl (by decide +kernel),
    List.forall_mem_cons.mpr ⟨s_iconst F (n := (-1)) (by decide +kernel) (by decide +kernel),
    List.forall_mem_cons.mpr ⟨s_putI F (C := RX4) (T := TX4) (N := 8) (i := 18) inX4 tyX4 tyX4_ok nmX4 rfl 2 (by decide) (aw1 86 (by decide +kernel) rfl) rfl rfl rfl (by decide +kernel),
    List.forall_mem_cons.mpr ⟨s_aload_n F (a := 0) rfl (by decide +kernel),
    List.forall_mem_cons.mpr ⟨s_sipush F (n := 400) (by decide +kernel) (by decide +kernel),
    List.forall_mem_cons.mpr ⟨s_putA F (C := RX4) (T := TX4) (N := 8) (i := 22) inX4 tyX4 tyX4_ok nmX4 rfl 3 (by decide) (aw1 88 (by decide +kernel) rfl) rfl rfl rfl rfl (ty := tyX4 3) (tyX4_ok 3 (by decide)) (fun _ => rfl) (fun _ => rfl) (by decide +kernel),
    (fun _ h => absurd h List.not_mem_nil)⟩⟩⟩⟩⟩⟩⟩⟩⟩⟩⟩
abbrev mk_X5_init : Mk := (yX5_init, cX5_init, 2, none)
def tb_X5_init : List (Nat × Op) := [(0, o_aload 0 1), (1, o_objI), (4, o_aload 0 1), (5, o_push (.int 4) 1), (8, o_putA 5 1), (11, o_aload 0 1), (12, o_push (.int 4) 1), (15, o_putA 5 2), (18, o_aload 0 1), (19, o_push (.int 4) 1), (22, o_putA 5 3), (25, o_aload 0 1), (26, o_push (.int 4) 1), (29, o_putA 5 4), (32, o_aload 0 1), (33, o_push (.int 0) 1), (34, o_putI 5 9), (37, o_aload 0 1), (38, o_push (.int 5) 1), (39, o_putI 5 10), (42, o_aload 0 1), (43, o_push (.int 1) 1), (44, o_putI 5 11), (47, o_aload 0 1), (48, o_push (.int (-1)) 1), (49, o_putI 5 13), (52, o_aload 0 1), (53, o_aload 1 1), (54, o_putA 5 0)]
set_option maxRecDepth 20000 in
set_option maxHeartbeats 4000000 in
theorem sn_X5_init {x : Cx} {d : Nat} (F : Fx x cX5_init 2 RX5 yX5_init.name none d) (hd1 : 1 ≤ d) : ∀ q ∈ tb_X5_init, Snd x 2 q :=
  List.forall_mem_cons.mpr ⟨s_aload_n F (a := 0) rfl (by decide +kernel),
    List.forall_mem_cons.mpr ⟨s_objI F (i := 3) hd1 (aw1 116 (by decide +kernel) rfl) (aw1 21 (by decide +kernel) rfl) (aw1 22 (by decide +kernel) rfl) (by decide +kernel),
    List.forall_mem_cons.mpr ⟨s_aload_n F (a := 0) rfl (by decide +kernel),
    List.forall_mem_cons.mpr ⟨s_iconst F (n := 4) (by decide +kernel) (by decide +kernel),
    List.forall_mem_cons.mpr ⟨s_putA F (C := RX5) (T := TX5) (N := 15) (i := 9) inX5 tyX5 tyX5_ok nmX5 rfl 1 (by decide) (aw1 118 (by decide +kernel) rfl) rfl rfl rfl rfl (ty := tyX5 1) (tyX5_ok 1 (by decide)) (fun _ => rfl) (fun _ => rfl) (by decide +kernel),
    List.forall_mem_cons.mpr ⟨s_aload_n F (a := 0) rfl (by decide +kernel),
    List.forall_mem_cons.mpr ⟨s_iconst F (n := 4) (by decide +kernel) (by decide +kernel),
    List.forall_mem_cons.mpr ⟨s_putA F (C := RX5) (T := TX5) (N := 15) (i := 15) inX5 tyX5 tyX5_ok nmX5 rfl 2 (by decide) (aw1 121 (by decide +kernel) rfl) rfl rfl rfl rfl (ty := tyX5 2) (tyX5_ok 2 (by decide)) (fun _ => rfl) (fun _ => rfl) (by decide +kernel),
    List.forall_mem_cons.mpr ⟨s_aload_n F (a := 0) rfl (by decide +kernel),
    List.forall_mem_cons.mpr ⟨s_iconst F (n := 4) (by decide +kernel) (by decide +kernel),
    List.forall_mem_cons.mpr ⟨s_putA F (C := RX5) (T := TX5) (N := 15) (i := 18) inX5 tyX5 tyX5_ok nmX5 rfl 3 (by decide) (aw1 124 (by decide +kernel) rfl) rfl rfl rfl rfl (ty := tyX5 3) (tyX5_ok 3 (by decide)) (fun _ => rfl) (fun _ => rfl) (by decide +kernel),
    List.forall_mem_cons.mpr ⟨s_aload_n F (a := 0) rfl (by decide +kernel),
    List.forall_mem_cons.mpr ⟨s_iconst F (n := 4) (by decide +kernel) (by decide +kernel),
    List.forall_mem_cons.mpr ⟨s_putA F (C := RX5) (T := TX5) (N := 15) (i := 21) inX5 tyX5 tyX5_ok nmX5 rfl 4 (by decide) (aw1 127 (by decide +kernel) rfl) rfl rfl rfl rfl (ty := tyX5 4) (tyX5_ok 4 (by decide)) (fun _ => rfl) (fun _ => rfl) (by decide +kernel),
    List.forall_mem_cons.mpr ⟨s_aload_n F (a := 0) rfl (by decide +kernel),
    List.forall_mem_cons.mpr ⟨s_iconst F (n := 0) (by decide +kernel) (by decide +kernel),
    List.forall_mem_cons.mpr ⟨s_putI F (C := RX5) (T := TX5) (N := 15) (i := 24) inX5 tyX5 tyX5_ok nmX5 rfl 9 (by decide) (aw1 138 (by decide +kernel) rfl) rfl rfl rfl (by decide +kernel),
    List.forall_mem_cons.mpr ⟨s_aload_n F (a := 0) rfl (by decide +kernel),
    List.forall_mem_cons.mpr ⟨s_iconst F (n := 5) (by decide +kernel) (by decide +kernel),
    List.forall_mem_cons.mpr ⟨s_putI F (C := RX5) (T := TX5) (N := 15) (i := 28) inX5 tyX5 tyX5_ok nmX5 rfl 10 (by decide) (aw1 140 (by decide +kernel) rfl) rfl rfl rfl (by decide +kernel),
    List.forall_mem_cons.mpr ⟨s_aload_n F (a := 0) rfl (by decide +kernel),
    List.forall_mem_cons.mpr ⟨s_iconst F (n := 1) (by decide +kernel) (by decide +kernel),
    List.forall_mem_cons.mpr ⟨s_putI F (C := RX5) (T := TX5) (N := 15) (i := 31) inX5 tyX5 tyX5_ok nmX5 rfl 11 (by decide) (aw1 142 (by decide +kernel) rfl) rfl rfl rfl (by decide +kernel),
    List.forall_mem_cons.mpr ⟨s_aload_n F (a := 0) rfl (by decide +kernel),
    List.forall_mem_cons.mpr ⟨s_iconst F (n := (-1)) (by decide +kernel) (by decide +kernel),
    List.forall_mem_cons.mpr ⟨s_putI F (C := RX5) (T := TX5) (N := 15) (i := 34) inX5 tyX5 tyX5_ok nmX5 rfl 13 (by decide) (aw1 146 (by decide +kernel) rfl) rfl rfl rfl (by decide +kernel),
    List.forall_mem_cons.mpr ⟨s_aload_n F (a := 0) rfl (by decide +kernel),
    List.forall_mem_cons.mpr ⟨s_aload_n F (a := 1) rfl (by decide +kernel),
    List.forall_mem_cons.mpr ⟨s_putA F (C := RX5) (T := TX5) (N := 15) (i := 37) inX5 tyX5 tyX5_ok nmX5 rfl 0 (by decide) (aw1 117 (by decide +kernel) rfl) rfl rfl rfl rfl (ty := tyX5 0) (tyX5_ok 0 (by decide)) (fun _ => rfl) (fun _ => rfl) (by decide +kernel),
    (fun _ h => absurd h List.not_mem_nil)⟩⟩⟩⟩⟩⟩⟩⟩⟩⟩⟩⟩⟩⟩⟩⟩⟩⟩⟩⟩⟩⟩⟩⟩⟩⟩⟩⟩⟩
abbrev mk_X3_init : Mk := (yX3_init, cX3_init, 1, none)
def tb_X3_init : List (Nat × Op) := [(0, o_aload 0 1), (1, o_objI), (4, o_aload 0 1), (5, o_push (.int 30) 2), (9, o_putA 3 0), (12, o_aload 0 1), (13, o_push (.int (-1)) 1), (14, o_putI 3 5)]
set_option maxRecDepth 20000 in
set_option maxHeartbeats 4000000 in
theorem sn_X3_init {x : Cx} {d : Nat} (F : Fx x cX3_init 1 RX3 yX3_init.name none d) (hd1 : 1 ≤ d) : ∀ q ∈ tb_X3_init, Snd x 1 q :=
  List.forall_mem_cons.mpr ⟨s_aload_n F (a := 0) rfl (by decide +kernel),
    List.forall_mem_cons.mpr ⟨s_objI F (i := 3) hd1 (aw1 184 (by decide +kernel) rfl) (aw1 21 (by decide +kernel) rfl) (aw1 22 (by decide +kernel) rfl) (by decide +kernel),
    List.forall_mem_cons.mpr ⟨s_aload_n F (a := 0) rfl (by decide +kernel),
    List.forall_mem_cons.mpr ⟨s_bipush F (n := 30) (by decide +kernel) (by decide +kernel),
    List.forall_mem_cons.mpr ⟨s_putA F (C := RX3) (T := TX3) (N := 6) (i := 9) inX3 tyX3 tyX3_ok nmX3 rfl 0 (by decide) (aw1 185 (by decide +kernel) rfl) rfl rfl rfl rfl (ty := tyX3 0) (tyX3_ok 0 (by decide)) (fun _ => rfl) (fun _ => rfl) (by decide +kernel),
    List.forall_mem_cons.mpr ⟨s_aload_n F (a := 0) rfl (by decide +kernel),
    List.forall_mem_cons.mpr ⟨s_iconst F (n := (-1)) (by decide +kernel) (by decide +kernel),
    List.forall_mem_cons.mpr ⟨s_putI F (C := RX3) (T := TX3) (N := 6) (i := 15) inX3 tyX3 tyX3_ok nmX3 rfl 5 (by decide) (aw1 195 (by decide +kernel) rfl) rfl rfl rfl (by decide +kernel),
    (fun _ h => absurd h List.not_mem_nil)⟩⟩⟩⟩⟩⟩⟩⟩
abbrev mk_X2_init : Mk := (yX2_init, cX2_init, 2, none)
def tb_X2_init : List (Nat × Op) := [(0, o_aload 0 1), (1, o_objI), (4, o_aload 0 1), (5, o_push (.int 7) 2), (9, o_putA 2 1), (12, o_aload 0 1), (13, o_push (.int 7) 2), (17, o_putA 2 2), (20, o_aload 0 1), (21, o_push (.int 32) 2), (25, o_putA 2 4), (28, o_aload 0 1), (29, o_push (.int 32) 2), (33, o_putA 2 5), (36, o_aload 0 1), (37, o_push (.int 28) 2), (41, o_putA 2 6), (44, o_aload 0 1), (45, o_aload 1 1), (46, o_putA 2 0)]
set_option maxRecDepth 20000 in
set_option maxHeartbeats 4000000 in
theorem sn_X2_init {x : Cx} {d : Nat} (F : Fx x cX2_init 2 RX2 yX2_init.name none d) (hd1 : 1 ≤ d) : ∀ q ∈ tb_X2_init, Snd x 2 q :=
  List.forall_mem_cons.mpr ⟨s_aload_n F (a := 0) rfl (by decide +kernel),
    List.forall_mem_cons.mpr ⟨s_objI F (i := 3) hd1 (aw2 3 (by decide +kernel) rfl) (aw1 21 (by decide +kernel) rfl) (aw1 22 (by decide +kernel) rfl) (by decide +kernel),
    List.forall_mem_cons.mpr ⟨s_aload_n F (a := 0) rfl (by decide +kernel),
    List.forall_mem_cons.mpr ⟨s_bipush F (n := 7) (by decide +kernel) (by decide +kernel),
    List.forall_mem_cons.mpr ⟨s_putA F (C := RX2) (T := TX2) (N := 7) (i := 9) inX2 tyX2 tyX2_ok nmX2 rfl 1 (by decide) (aw2 5 (by decide +kernel) rfl) rfl rfl rfl rfl (ty := tyX2 1) (tyX2_ok 1 (by decide)) (fun _ => rfl) (fun _ => rfl) (by decide +kernel),
    List.forall_mem_cons.mpr ⟨s_aload_n F (a := 0) rfl (by decide +kernel),
    List.forall_mem_cons.mpr ⟨s_bipush F (n := 7) (by decide +kernel) (by decide +kernel),
    List.forall_mem_cons.mpr ⟨s_putA F (C := RX2) (T := TX2) (N := 7) (i := 15) inX2 tyX2 tyX2_ok nmX2 rfl 2 (by decide) (aw2 6 (by decide +kernel) rfl) rfl rfl rfl rfl (ty := tyX2 2) (tyX2_ok 2 (by decide)) (fun _ => rfl) (fun _ => rfl) (by decide +kernel),
    List.forall_mem_cons.mpr ⟨s_aload_n F (a := 0) rfl (by decide +kernel),
    List.forall_mem_cons.mpr ⟨s_bipush F (n := 32) (by decide +kernel) (by decide +kernel),
    List.forall_mem_cons.mpr ⟨s_putA F (C := RX2) (T := TX2) (N := 7) (i := 18) inX2 tyX2 tyX2_ok nmX2 rfl 4 (by decide) (aw2 9 (by decide +kernel) rfl) rfl rfl rfl rfl (ty := tyX2 4) (tyX2_ok 4 (by decide)) (fun _ => rfl) (fun _ => rfl) (by decide +kernel),
    List.forall_mem_cons.mpr ⟨s_aload_n F (a := 0) rfl (by decide +kernel),
    List.forall_mem_cons.mpr ⟨s_bipush F (n := 32) (by decide +kernel) (by decide +kernel),
    List.forall_mem_cons.mpr ⟨s_putA F (C := RX2) (T := TX2) (N := 7) (i := 21) inX2 tyX2 tyX2_ok nmX2 rfl 5 (by decide) (aw2 10 (by decide +kernel) rfl) rfl rfl rfl rfl (ty := tyX2 5) (tyX2_ok 5 (by decide)) (fun _ => rfl) (fun _ => rfl) (by decide +kernel),
    List.forall_mem_cons.mpr ⟨s_aload_n F (a := 0) rfl (by decide +kernel),
    List.forall_mem_cons.mpr ⟨s_bipush F (n := 28) (by decide +kernel) (by decide +kernel),
    List.forall_mem_cons.mpr ⟨s_putA F (C := RX2) (T := TX2) (N := 7) (i := 24) inX2 tyX2 tyX2_ok nmX2 rfl 6 (by decide) (aw2 11 (by decide +kernel) rfl) rfl rfl rfl rfl (ty := tyX2 6) (tyX2_ok 6 (by decide)) (fun _ => rfl) (fun _ => rfl) (by decide +kernel),
    List.forall_mem_cons.mpr ⟨s_aload_n F (a := 0) rfl (by decide +kernel),
    List.forall_mem_cons.mpr ⟨s_aload_n F (a := 1) rfl (by decide +kernel),
    List.forall_mem_cons.mpr ⟨s_putA F (C := RX2) (T := TX2) (N := 7) (i := 27) inX2 tyX2 tyX2_ok nmX2 rfl 0 (by decide) (aw2 4 (by decide +kernel) rfl) rfl rfl rfl rfl (ty := tyX2 0) (tyX2_ok 0 (by decide)) (fun _ => rfl) (fun _ => rfl) (by decide +kernel),
    (fun _ h => absurd h List.not_mem_nil)⟩⟩⟩⟩⟩⟩⟩⟩⟩⟩⟩⟩⟩⟩⟩⟩⟩⟩⟩⟩
abbrev mk_X0_init : Mk := (yX0_init, cX0_init, 3, none)
def tb_X0_init : List (Nat × Op) := [(0, o_aload 0 1), (1, o_objI), (4, o_aload 0 1), (5, o_push (.int 13) 2), (10, o_putA 0 0), (13, o_aload 0 1), (14, o_push (.int 12) 2), (18, o_putA 0 1), (21, o_push (.int 0) 1), (22, o_istore 2 1), (23, o_iload 2 1), (24, o_push (.int 12) 2), (26, o_icmp_gt 49), (29, o_aload 0 1), (30, o_getf 0 0), (33, o_iload 2 1), (37, o_dup), (38, o_aload 1 1), (42, o_aast), (43, o_iinc 2 1), (46, o_goto 23)]
set_option maxRecDepth 20000 in
set_option maxHeartbeats 4000000 in
theorem sn_X0_init {x : Cx} {d : Nat} (F : Fx x cX0_init 3 RX0 yX0_init.name none d) (hd1 : 1 ≤ d) : ∀ q ∈ tb_X0_init, Snd x 3 q :=
  List.forall_mem_cons.mpr ⟨s_aload_n F (a := 0) rfl (by decide +kernel),
    List.forall_mem_cons.mpr ⟨s_objI F (i := 5) hd1 (aw1 215 (by decide +kernel) rfl) (aw1 21 (by decide +kernel) rfl) (aw1 22 (by decide +kernel) rfl) (by decide +kernel),
    List.forall_mem_cons.mpr ⟨s_aload_n F (a := 0) rfl (by decide +kernel),
    List.forall_mem_cons.mpr ⟨s_bipush F (n := 13) (by decide +kernel) (by decide +kernel),
    List.forall_mem_cons.mpr ⟨s_putA F (C := RX0) (T := TX0) (N := 6) (i := 13) inX0 tyX0 tyX0_ok nmX0 rfl 0 (by decide) (aw1 219 (by decide +kernel) rfl) rfl rfl rfl rfl (ty := tyX0 0) (tyX0_ok 0 (by decide)) (fun _ => rfl) (fun _ => rfl) (by decide +kernel),
    List.forall_mem_cons.mpr ⟨s_aload_n F (a := 0) rfl (by decide +kernel),
    List.forall_mem_cons.mpr ⟨s_bipush F (n := 12) (by decide +kernel) (by decide +kernel),
    List.forall_mem_cons.mpr ⟨s_putA F (C := RX0) (T := TX0) (N := 6) (i := 17) inX0 tyX0 tyX0_ok nmX0 rfl 1 (by decide) (aw1 220 (by decide +kernel) rfl) rfl rfl rfl rfl (ty := tyX0 1) (tyX0_ok 1 (by decide)) (fun _ => rfl) (fun _ => rfl) (by decide +kernel),
    List.forall_mem_cons.mpr ⟨s_iconst F (n := 0) (by decide +kernel) (by decide +kernel),
    List.forall_mem_cons.mpr ⟨s_istore_n F (a := 2) rfl (by decide) (by decide +kernel),
    List.forall_mem_cons.mpr ⟨s_iload_n F (a := 2) rfl (by decide +kernel),
    List.forall_mem_cons.mpr ⟨s_bipush F (n := 12) (by decide +kernel) (by decide +kernel),
    List.forall_mem_cons.mpr ⟨s_icmp_gt F (off := 23) (by decide) (by decide +kernel),
    List.forall_mem_cons.mpr ⟨s_aload_n F (a := 0) rfl (by decide +kernel),
    List.forall_mem_cons.mpr ⟨s_getf F (C := RX0) (T := TX0) (N := 6) (i := 13) inX0 rfl 0 (by decide) (aw1 219 (by decide +kernel) rfl) rfl (by decide +kernel),
    List.forall_mem_cons.mpr ⟨s_iload_n F (a := 2) rfl (by decide +kernel),
    List.forall_mem_cons.mpr ⟨s_dup F (by decide +kernel),
    List.forall_mem_cons.mpr ⟨s_aload_n F (a := 1) rfl (by decide +kernel),
    List.forall_mem_cons.mpr ⟨s_aast F (by decide +kernel),
    List.forall_mem_cons.mpr ⟨s_iinc F (z := 1) (by decide +kernel) (by decide) (by decide +kernel),
    List.forall_mem_cons.mpr ⟨s_goto F (off := (-23)) (by decide) (by decide +kernel),
    (fun _ h => absurd h List.not_mem_nil)⟩⟩⟩⟩⟩⟩⟩⟩⟩⟩⟩⟩⟩⟩⟩⟩⟩⟩⟩⟩⟩
abbrev mk_X6_init : Mk := (yX6_init, cX6_init, 2, none)
def tb_X6_init : List (Nat × Op) := [(0, o_aload 0 1), (1, o_objI), (4, o_aload 0 1), (8, o_dup), (12, o_putA 6 0), (15, o_aload 0 1), (19, o_dup), (23, o_putA 6 1), (26, o_aload 0 1), (30, o_dup), (31, o_aload 0 1), (32, o_getf 6 0), (38, o_putA 6 2), (41, o_aload 0 1), (45, o_dup), (46, o_aload 0 1), (47, o_getf 6 0), (53, o_putA 6 3), (56, o_aload 0 1), (60, o_dup), (64, o_putA 6 4), (67, o_aload 0 1), (71, o_dup), (72, o_aload 0 1), (73, o_getf 6 0), (79, o_putA 6 5), (82, o_aload 0 1), (86, o_dup), (87, o_aload 0 1), (88, o_getf 6 0), (94, o_putA 6 6), (97, o_aload 0 1), (98, o_push (.int 2) 1), (102, o_putA 6 7), (105, o_push (.int 0) 1), (106, o_istore 1 1), (107, o_iload 1 1), (108, o_push (.int 2) 1), (109, o_icmp_ge 135), (112, o_aload 0 1), (113, o_getf 6 7), (116, o_iload 1 1), (120, o_dup), (121, o_aload 0 1), (122, o_getf 6 0), (128, o_aast), (129, o_iinc 1 1), (132, o_goto 107)]
set_option maxRecDepth 20000 in
set_option maxHeartbeats 4000000 in
theorem sn_X6_init {x : Cx} {d : Nat} (F : Fx x cX6_init 2 RX6 yX6_init.name none d) (hd1 : 1 ≤ d) : ∀ q ∈ tb_X6_init, Snd x 2 q :=
  List.forall_mem_cons.mpr ⟨s_aload_n F (a := 0) rfl (by decide +kernel),
    List.forall_mem_cons.mpr ⟨s_objI F (i := 1) hd1 (aw1 20 (by decide +kernel) rfl) (aw1 21 (by decide +kernel) rfl) (aw1 22 (by decide +kernel) rfl) (by decide +kernel),
    List.forall_mem_cons.mpr ⟨s_aload_n F (a := 0) rfl (by decide +kernel),
    List.forall_mem_cons.mpr ⟨s_dup F (by decide +kernel),
    List.forall_mem_cons.mpr ⟨s_putA F (C := RX6) (T := TX6) (N := 9) (i := 10) inX6 tyX6 tyX6_ok nmX6 rfl 0 (by decide) (aw2 27 (by decide +kernel) rfl) rfl rfl rfl rfl (ty := tyX6 0) (tyX6_ok 0 (by decide)) (fun _ => rfl) (fun _ => rfl) (by decide +kernel),
    List.forall_mem_cons.mpr ⟨s_aload_n F (a := 0) rfl (by decide +kernel),
    List.forall_mem_cons.mpr ⟨s_dup F (by decide +kernel),
    List.forall_mem_cons.mpr ⟨s_putA F (C := RX6) (T := TX6) (N := 9) (i := 19) inX6 tyX6 tyX6_ok nmX6 rfl 1 (by decide) (aw2 28 (by decide +kernel) rfl) rfl rfl rfl rfl (ty := tyX6 1) (tyX6_ok 1 (by decide)) (fun _ => rfl) (fun _ => rfl) (by decide +kernel),
    List.forall_mem_cons.mpr ⟨s_aload_n F (a := 0) rfl (by decide +kernel),
    List.forall_mem_cons.mpr ⟨s_dup F (by decide +kernel),
    List.forall_mem_cons.mpr ⟨s_aload_n F (a := 0) rfl (by decide +kernel),
    List.forall_mem_cons.mpr ⟨s_getf F (C := RX6) (T := TX6) (N := 9) (i := 10) inX6 rfl 0 (by decide) (aw2 27 (by decide +kernel) rfl) rfl (by decide +kernel),
    List.forall_mem_cons.mpr ⟨s_putA F (C := RX6) (T := TX6) (N := 9) (i := 28) inX6 tyX6 tyX6_ok nmX6 rfl 2 (by decide) (aw2 29 (by decide +kernel) rfl) rfl rfl rfl rfl (ty := tyX6 2) (tyX6_ok 2 (by decide)) (fun _ => rfl) (fun _ => rfl) (by decide +kernel),
    List.forall_mem_cons.mpr ⟨s_aload_n F (a := 0) rfl (by decide +kernel),
    List.forall_mem_cons.mpr ⟨s_dup F (by decide +kernel),
    List.forall_mem_cons.mpr ⟨s_aload_n F (a := 0) rfl (by decide +kernel),
    List.forall_mem_cons.mpr ⟨s_getf F (C := RX6) (T := TX6) (N := 9) (i := 10) inX6 rfl 0 (by decide) (aw2 27 (by decide +kernel) rfl) rfl (by decide +kernel),
    List.forall_mem_cons.mpr ⟨s_putA F (C := RX6) (T := TX6) (N := 9) (i := 32) inX6 tyX6 tyX6_ok nmX6 rfl 3 (by decide) (aw2 30 (by decide +kernel) rfl) rfl rfl rfl rfl (ty := tyX6 3) (tyX6_ok 3 (by decide)) (fun _ => rfl) (fun _ => rfl) (by decide +kernel),
    List.forall_mem_cons.mpr ⟨s_aload_n F (a := 0) rfl (by decide +kernel),
    List.forall_mem_cons.mpr ⟨s_dup F (by decide +kernel),
    List.forall_mem_cons.mpr ⟨s_putA F (C := RX6) (T := TX6) (N := 9) (i := 38) inX6 tyX6 tyX6_ok nmX6 rfl 4 (by decide) (aw2 31 (by decide +kernel) rfl) rfl rfl rfl rfl (ty := tyX6 4) (tyX6_ok 4 (by decide)) (fun _ => rfl) (fun _ => rfl) (by decide +kernel),
    List.forall_mem_cons.mpr ⟨s_aload_n F (a := 0) rfl (by decide +kernel),
    List.forall_mem_cons.mpr ⟨s_dup F (by decide +kernel),
    List.forall_mem_cons.mpr ⟨s_aload_n F (a := 0) rfl (by decide +kernel),
    List.forall_mem_cons.mpr ⟨s_getf F (C := RX6) (T := TX6) (N := 9) (i := 10) inX6 rfl 0 (by decide) (aw2 27 (by decide +kernel) rfl) rfl (by decide +kernel),
    List.forall_mem_cons.mpr ⟨s_putA F (C := RX6) (T := TX6) (N := 9) (i := 45) inX6 tyX6 tyX6_ok nmX6 rfl 5 (by decide) (aw2 32 (by decide +kernel) rfl) rfl rfl rfl rfl (ty := tyX6 5) (tyX6_ok 5 (by decide)) (fun _ => rfl) (fun _ => rfl) (by decide +kernel),
    List.forall_mem_cons.mpr ⟨s_aload_n F (a := 0) rfl (by decide +kernel),
    List.forall_mem_cons.mpr ⟨s_dup F (by decide +kernel),
    List.forall_mem_cons.mpr ⟨s_aload_n F (a := 0) rfl (by decide +kernel),
    List.forall_mem_cons.mpr ⟨s_getf F (C := RX6) (T := TX6) (N := 9) (i := 10) inX6 rfl 0 (by decide) (aw2 27 (by decide +kernel) rfl) rfl (by decide +kernel),
    List.forall_mem_cons.mpr ⟨s_putA F (C := RX6) (T := TX6) (N := 9) (i := 52) inX6 tyX6 tyX6_ok nmX6 rfl 6 (by decide) (aw2 33 (by decide +kernel) rfl) rfl rfl rfl rfl (ty := tyX6 6) (tyX6_ok 6 (by decide)) (fun _ => rfl) (fun _ => rfl) (by decide +kernel),
    List.forall_mem_cons.mpr ⟨s_aload_n F (a := 0) rfl (by decide +kernel),
    List.forall_mem_cons.mpr ⟨s_iconst F (n := 2) (by decide +kernel) (by decide +kernel),
    List.forall_mem_cons.mpr ⟨s_putA F (C := RX6) (T := TX6) (N := 9) (i := 56) inX6 tyX6 tyX6_ok nmX6 rfl 7 (by decide) (aw2 34 (by decide +kernel) rfl) rfl rfl rfl rfl (ty := tyX6 7) (tyX6_ok 7 (by decide)) (fun _ => rfl) (fun _ => rfl) (by decide +kernel),
    List.forall_mem_cons.mpr ⟨s_iconst F (n := 0) (by decide +kernel) (by decide +kernel),
    List.forall_mem_cons.mpr ⟨s_istore_n F (a := 1) rfl (by decide) (by decide +kernel),
    List.forall_mem_cons.mpr ⟨s_iload_n F (a := 1) rfl (by decide +kernel),
    List.forall_mem_cons.mpr ⟨s_iconst F (n := 2) (by decide +kernel) (by decide +kernel),
    List.forall_mem_cons.mpr ⟨s_icmp_ge F (off := 26) (by decide) (by decide +kernel),
    List.forall_mem_cons.mpr ⟨s_aload_n F (a := 0) rfl (by decide +kernel),
    List.forall_mem_cons.mpr ⟨s_getf F (C := RX6) (T := TX6) (N := 9) (i := 56) inX6 rfl 7 (by decide) (aw2 34 (by decide +kernel) rfl) rfl (by decide +kernel),
    List.forall_mem_cons.mpr ⟨s_iload_n F (a := 1) rfl (by decide +kernel),
    List.forall_mem_cons.mpr ⟨s_dup F (by decide +kernel),
    List.forall_mem_cons.mpr ⟨s_aload_n F (a := 0) rfl (by decide +kernel),
    List.forall_mem_cons.mpr ⟨s_getf F (C := RX6) (T := TX6) (N := 9) (i := 10) inX6 rfl 0 (by decide) (aw2 27 (by decide +kernel) rfl) rfl (by decide +kernel),
    List.forall_mem_cons.mpr ⟨s_aast F (by decide +kernel),
    List.forall_mem_cons.mpr ⟨s_iinc F (z := 1) (by decide +kernel) (by decide) (by decide +kernel),
    List.forall_mem_cons.mpr ⟨s_goto F (off := (-25)) (by decide) (by decide +kernel),
    (fun _ h => absurd h List.not_mem_nil)⟩⟩⟩⟩⟩⟩⟩⟩⟩⟩⟩⟩⟩⟩⟩⟩⟩⟩⟩⟩⟩⟩⟩⟩⟩⟩⟩⟩⟩⟩⟩⟩⟩⟩⟩⟩⟩⟩⟩⟩⟩⟩⟩⟩⟩⟩⟩⟩
theorem im_X1_init : Cond.instanceMethod yX1_init ∈ allW := (aw1 26 (by decide +kernel) rfl)
theorem l9_X1_init : Lk9 mk_X1_init 0 := ⟨(aw1 2 (by decide +kernel) rfl), (aw1 27 (by decide +kernel) rfl), by decide, by decide, by decide +kernel, by decide⟩
theorem lk_X0_21 : Lk RX0 21 mk_X5_init 1 := ⟨(aw1 218 (by decide +kernel) rfl), (aw1 4 (by decide +kernel) rfl), (aw1 115 (by decide +kernel) rfl), by decide, by decide, by decide +kernel, by decide⟩
theorem im_X5_init : Cond.instanceMethod yX5_init ∈ allW := (aw1 114 (by decide +kernel) rfl)
theorem l9_X5_init : Lk9 mk_X5_init 1 := ⟨(aw1 4 (by decide +kernel) rfl), (aw1 115 (by decide +kernel) rfl), by decide, by decide, by decide +kernel, by decide⟩
theorem im_X4_init : Cond.instanceMethod yX4_init ∈ allW := (aw1 77 (by decide +kernel) rfl)
theorem l9_X4_init : Lk9 mk_X4_init 0 := ⟨(aw1 3 (by decide +kernel) rfl), (aw1 78 (by decide +kernel) rfl), by decide, by decide, by decide +kernel, by decide⟩
theorem lk_X6_25 : Lk RX6 25 mk_X5_init 1 := ⟨(aw1 113 (by decide +kernel) rfl), (aw1 4 (by decide +kernel) rfl), (aw1 115 (by decide +kernel) rfl), by decide, by decide, by decide +kernel, by decide⟩
theorem im_X3_init : Cond.instanceMethod yX3_init ∈ allW := (aw1 182 (by decide +kernel) rfl)
theorem l9_X3_init : Lk9 mk_X3_init 0 := ⟨(aw1 5 (by decide +kernel) rfl), (aw1 183 (by decide +kernel) rfl), by decide, by decide, by decide +kernel, by decide⟩
theorem lk_X6_44 : Lk RX6 44 mk_X0_init 1 := ⟨(aw1 212 (by decide +kernel) rfl), (aw1 6 (by decide +kernel) rfl), (aw1 214 (by decide +kernel) rfl), by decide, by decide, by decide +kernel, by decide⟩
theorem im_X0_init : Cond.instanceMethod yX0_init ∈ allW := (aw1 213 (by decide +kernel) rfl)
theorem l9_X0_init : Lk9 mk_X0_init 1 := ⟨(aw1 6 (by decide +kernel) rfl), (aw1 214 (by decide +kernel) rfl), by decide, by decide, by decide +kernel, by decide⟩
theorem lk_X6_51 : Lk RX6 51 mk_X2_init 1 := ⟨(aw2 0 (by decide +kernel) rfl), (aw1 7 (by decide +kernel) rfl), (aw2 2 (by decide +kernel) rfl), by decide, by decide, by decide +kernel, by decide⟩
theorem im_X2_init : Cond.instanceMethod yX2_init ∈ allW := (aw2 1 (by decide +kernel) rfl)
theorem l9_X2_init : Lk9 mk_X2_init 1 := ⟨(aw1 7 (by decide +kernel) rfl), (aw2 2 (by decide +kernel) rfl), by decide, by decide, by decide +kernel, by decide⟩
set_option maxRecDepth 100000 in
set_option maxHeartbeats 16000000 in
theorem k_X1_init : CtrA mk_X1_init 1 [.ref 10] [(10, .inl (1, [.null, .null, .null, .int 0, .int 0, .int 0, .int 0, .int 0]))] [11, 12, 13] 3 12 (fun ws' => ws' = [(10, .inl (1, [.ref 11, .ref 12, .ref 13, .int 0, .int 0, .int 5, .int 1, .int 0])), (11, .inr (.inl (0, [0, 0, 0, 0]))), (12, .inr (.inl (0, [0, 0, 0, 0]))), (13, .inr (.inl (0, [0, 0, 0, 0])))]) := by
  refine CtrA.of (by decide) (by decide) (fun x ad F hX hJ hRt => ?_)
  show J x 1 (ad, 0, 0) (0, [(0, .ref 10)], [], [(10, .inl (1, [.null, .null, .null, .int 0, .int 0, .int 0, .int 0, .int 0]))])
  refine J.run (sn_X1_init F (by decide)) 4 [] (S' := (6, [(0, .ref 10)], [.int 4, .ref 10], [(10, .inl (1, [.null, .null, .null, .int 0, .int 0, .int 0, .int 0, .int 0]))])) (ob := []) rfl (ob_n) ?_
  refine J.newa F hX (t := 0) (atype := .int) (ty := .int) rfl (fun _ => rfl) (aw1 73 (by decide +kernel) rfl) (by decide +kernel) rfl (fun _ _ h => h) 4 (by decide) (by decide +kernel) rfl [0, 0, 0, 0] rfl 11 rfl rfl rfl (fun ad1 had1 => ?_)
  have hJ := jSx_ad had1 (by decide +kernel) hJ
  have ag := had1
  refine J.run (sn_X1_init F (by decide)) 3 [] (S' := (13, [(0, .ref 10)], [.int 4, .ref 10], [(10, .inl (1, [.ref 11, .null, .null, .int 0, .int 0, .int 0, .int 0, .int 0])), (11, .inr (.inl (0, [0, 0, 0, 0])))])) (ob := []) rfl (ob_n) ?_
  refine J.newa F hX (t := 0) (atype := .int) (ty := .int) rfl (fun _ => rfl) (aw1 73 (by decide +kernel) rfl) (by decide +kernel) rfl (fun _ _ h => h) 4 (by decide) (by decide +kernel) rfl [0, 0, 0, 0] rfl 12 rfl rfl rfl (fun ad2 had2 => ?_)
  have hJ := jSx_ad had2 (by decide +kernel) hJ
  have ag := agT ag had2
  refine J.run (sn_X1_init F (by decide)) 3 [] (S' := (20, [(0, .ref 10)], [.int 4, .ref 10], [(10, .inl (1, [.ref 11, .ref 12, .null, .int 0, .int 0, .int 0, .int 0, .int 0])), (11, .inr (.inl (0, [0, 0, 0, 0]))), (12, .inr (.inl (0, [0, 0, 0, 0])))])) (ob := []) rfl (ob_n) ?_
  refine J.newa F hX (t := 0) (atype := .int) (ty := .int) rfl (fun _ => rfl) (aw1 73 (by decide +kernel) rfl) (by decide +kernel) rfl (fun _ _ h => h) 4 (by decide) (by decide +kernel) rfl [0, 0, 0, 0] rfl 13 rfl rfl rfl (fun ad3 had3 => ?_)
  have hJ := jSx_ad had3 (by decide +kernel) hJ
  have ag := agT ag had3
  refine J.run (sn_X1_init F (by decide)) 10 [] (S' := (40, [(0, .ref 10)], [], [(10, .inl (1, [.ref 11, .ref 12, .ref 13, .int 0, .int 0, .int 5, .int 1, .int 0])), (11, .inr (.inl (0, [0, 0, 0, 0]))), (12, .inr (.inl (0, [0, 0, 0, 0]))), (13, .inr (.inl (0, [0, 0, 0, 0])))])) (ob := []) rfl (ob_n) ?_
  exact J.vret F hRt (Nat.le_of_ble_eq_true rfl) (Nat.le_of_ble_eq_true rfl) rfl (by decide +kernel) ⟨rfl, ag, rfl, rfl⟩
set_option maxRecDepth 100000 in
set_option maxHeartbeats 16000000 in
theorem k_X4_init : CtrA mk_X4_init 2 [.ref 20] [(20, .inl (4, [.null, .int 0, .int 0, .null, .int 0, .int 0, .int 0, .int 0]))] [25, 26, 27, 28, 21] 5 420 (fun ws' => ws' = [(20, .inl (4, [.ref 25, .int 0, .int (-1), .ref 21, .int 0, .int 0, .int 0, .int 0])), (25, .inl (1, [.ref 26, .ref 27, .ref 28, .int 0, .int 0, .int 5, .int 1, .int 0])), (26, .inr (.inl (0, [0, 0, 0, 0]))), (27, .inr (.inl (0, [0, 0, 0, 0]))), (28, .inr (.inl (0, [0, 0, 0, 0]))), (21, .inr (.inl (1, (List.replicate 400 0))))]) := by
  refine CtrA.of (by decide) (by decide) (fun x ad F hX hJ hRt => ?_)
  show J x 1 (ad, 0, 0) (0, [(0, .ref 20)], [], [(20, .inl (4, [.null, .int 0, .int 0, .null, .int 0, .int 0, .int 0, .int 0]))])
  refine J.run (sn_X4_init F (by decide)) 3 [] (S' := (5, [(0, .ref 20)], [.ref 20], [(20, .inl (4, [.null, .int 0, .int 0, .null, .int 0, .int 0, .int 0, .int 0]))])) (ob := []) rfl (ob_n) ?_
  refine J.new F hX (idx := 9) (ci := 1) (N := 8) (C := RX1) (T := TX1) inX1 tyX1 tyX1_ok rfl (aw1 80 (by decide +kernel) rfl) (aw1 24 (by decide +kernel) rfl) (aw1 2 (by decide +kernel) rfl) (by decide +kernel) [.null, .null, .null, .int 0, .int 0, .int 0, .int 0, .int 0] (fun j hj => match j, hj with | 0, _ => rfl | 1, _ => rfl | 2, _ => rfl | 3, _ => rfl | 4, _ => rfl | 5, _ => rfl | 6, _ => rfl | 7, _ => rfl | n + 8, h => absurd h (by omega)) (fun _ => rfl) 25 rfl rfl rfl (fun ad1 had1 => ?_)
  have hJ := jSx_ad had1 (by decide +kernel) hJ
  have ag := had1
  refine J.run (sn_X4_init F (by decide)) 1 [] (S' := (9, [(0, .ref 20)], [.ref 25, .ref 25, .ref 20], [(20, .inl (4, [.null, .int 0, .int 0, .null, .int 0, .int 0, .int 0, .int 0])), (25, .inl (1, [.null, .null, .null, .int 0, .int 0, .int 0, .int 0, .int 0]))])) (ob := []) rfl (ob_n) ?_
  refine J.callIN F hX hJ (idx := 11) (by decide +kernel) l9_X1_init im_X1_init rfl (by decide +kernel) k_X1_init [(10, 25), (11, 26), (12, 27), (13, 28)] (by decide) [.ref 25, .ref 20] rfl rfl rfl rfl rfl (by decide +kernel) rfl (by decide +kernel) [26, 27, 28] rfl (by decide +kernel) (by decide +kernel) (by decide +kernel) rfl (fun ad2 ws' had2 hk hp => ?_)
  subst hp
  clear hk
  have hJ := jSx_ad had2 (by decide +kernel) hJ
  have ag := agT ag had2
  show J x 1 (ad2, 0 + 1 + 3, 0 + 8 + 12) (12, [(0, .ref 20)], [.ref 25, .ref 20], [(20, .inl (4, [.null, .int 0, .int 0, .null, .int 0, .int 0, .int 0, .int 0])), (25, .inl (1, [.ref 26, .ref 27, .ref 28, .int 0, .int 0, .int 5, .int 1, .int 0])), (26, .inr (.inl (0, [0, 0, 0, 0]))), (27, .inr (.inl (0, [0, 0, 0, 0]))), (28, .inr (.inl (0, [0, 0, 0, 0])))])
  refine J.run (sn_X4_init F (by decide)) 6 [] (S' := (24, [(0, .ref 20)], [.int 400, .ref 20], [(20, .inl (4, [.ref 25, .int 0, .int (-1), .null, .int 0, .int 0, .int 0, .int 0])), (25, .inl (1, [.ref 26, .ref 27, .ref 28, .int 0, .int 0, .int 5, .int 1, .int 0])), (26, .inr (.inl (0, [0, 0, 0, 0]))), (27, .inr (.inl (0, [0, 0, 0, 0]))), (28, .inr (.inl (0, [0, 0, 0, 0])))])) (ob := []) rfl (ob_n) ?_
  refine J.newa F hX (t := 1) (atype := .byte) (ty := .byte) rfl (fun _ => rfl) (aw1 110 (by decide +kernel) rfl) (by decide +kernel) rfl (fun _ _ h => h) 400 (by decide) (by decide +kernel) rfl (List.replicate 400 0) rfl 21 rfl rfl rfl (fun ad3 had3 => ?_)
  have hJ := jSx_ad had3 (by decide +kernel) hJ
  have ag := agT ag had3
  refine J.run (sn_X4_init F (by decide)) 1 [] (S' := (29, [(0, .ref 20)], [], [(20, .inl (4, [.ref 25, .int 0, .int (-1), .ref 21, .int 0, .int 0, .int 0, .int 0])), (25, .inl (1, [.ref 26, .ref 27, .ref 28, .int 0, .int 0, .int 5, .int 1, .int 0])), (26, .inr (.inl (0, [0, 0, 0, 0]))), (27, .inr (.inl (0, [0, 0, 0, 0]))), (28, .inr (.inl (0, [0, 0, 0, 0]))), (21, .inr (.inl (1, (List.replicate 400 0))))])) (ob := []) rfl (ob_n) ?_
  exact J.vret F hRt (Nat.le_of_ble_eq_true rfl) (Nat.le_of_ble_eq_true rfl) rfl (by decide +kernel) ⟨rfl, ag, rfl, rfl⟩
set_option maxRecDepth 100000 in
set_option maxHeartbeats 16000000 in
theorem k_X5_init : CtrA mk_X5_init 1 [.ref 100, .ref 10] [(100, .inl (5, [.null, .null, .null, .null, .null, .int 0, .int 0, .int 0, .int 0, .int 0, .int 0, .int 0, .int 0, .int 0, .int 0]))] [101, 102, 103, 104] 4 16 (fun ws' => ws' = [(100, .inl (5, [.ref 10, .ref 101, .ref 102, .ref 103, .ref 104, .int 0, .int 0, .int 0, .int 0, .int 0, .int 5, .int 1, .int 0, .int (-1), .int 0])), (101, .inr (.inl (0, [0, 0, 0, 0]))), (102, .inr (.inl (0, [0, 0, 0, 0]))), (103, .inr (.inl (0, [0, 0, 0, 0]))), (104, .inr (.inl (0, [0, 0, 0, 0])))]) := by
  refine CtrA.of (by decide) (by decide) (fun x ad F hX hJ hRt => ?_)
  show J x 2 (ad, 0, 0) (0, [(0, .ref 100), (1, .ref 10)], [], [(100, .inl (5, [.null, .null, .null, .null, .null, .int 0, .int 0, .int 0, .int 0, .int 0, .int 0, .int 0, .int 0, .int 0, .int 0]))])
  refine J.run (sn_X5_init F (by decide)) 4 [] (S' := (6, [(0, .ref 100), (1, .ref 10)], [.int 4, .ref 100], [(100, .inl (5, [.null, .null, .null, .null, .null, .int 0, .int 0, .int 0, .int 0, .int 0, .int 0, .int 0, .int 0, .int 0, .int 0]))])) (ob := []) rfl (ob_n) ?_
  refine J.newa F hX (t := 0) (atype := .int) (ty := .int) rfl (fun _ => rfl) (aw1 73 (by decide +kernel) rfl) (by decide +kernel) rfl (fun _ _ h => h) 4 (by decide) (by decide +kernel) rfl [0, 0, 0, 0] rfl 101 rfl rfl rfl (fun ad1 had1 => ?_)
  have hJ := jSx_ad had1 (by decide +kernel) hJ
  have ag := had1
  refine J.run (sn_X5_init F (by decide)) 3 [] (S' := (13, [(0, .ref 100), (1, .ref 10)], [.int 4, .ref 100], [(100, .inl (5, [.null, .ref 101, .null, .null, .null, .int 0, .int 0, .int 0, .int 0, .int 0, .int 0, .int 0, .int 0, .int 0, .int 0])), (101, .inr (.inl (0, [0, 0, 0, 0])))])) (ob := []) rfl (ob_n) ?_
  refine J.newa F hX (t := 0) (atype := .int) (ty := .int) rfl (fun _ => rfl) (aw1 73 (by decide +kernel) rfl) (by decide +kernel) rfl (fun _ _ h => h) 4 (by decide) (by decide +kernel) rfl [0, 0, 0, 0] rfl 102 rfl rfl rfl (fun ad2 had2 => ?_)
  have hJ := jSx_ad had2 (by decide +kernel) hJ
  have ag := agT ag had2
  refine J.run (sn_X5_init F (by decide)) 3 [] (S' := (20, [(0, .ref 100), (1, .ref 10)], [.int 4, .ref 100], [(100, .inl (5, [.null, .ref 101, .ref 102, .null, .null, .int 0, .int 0, .int 0, .int 0, .int 0, .int 0, .int 0, .int 0, .int 0, .int 0])), (101, .inr (.inl (0, [0, 0, 0, 0]))), (102, .inr (.inl (0, [0, 0, 0, 0])))])) (ob := []) rfl (ob_n) ?_
  refine J.newa F hX (t := 0) (atype := .int) (ty := .int) rfl (fun _ => rfl) (aw1 73 (by decide +kernel) rfl) (by decide +kernel) rfl (fun _ _ h => h) 4 (by decide) (by decide +kernel) rfl [0, 0, 0, 0] rfl 103 rfl rfl rfl (fun ad3 had3 => ?_)
  have hJ := jSx_ad had3 (by decide +kernel) hJ
  have ag := agT ag had3
  refine J.run (sn_X5_init F (by decide)) 3 [] (S' := (27, [(0, .ref 100), (1, .ref 10)], [.int 4, .ref 100], [(100, .inl (5, [.null, .ref 101, .ref 102, .ref 103, .null, .int 0, .int 0, .int 0, .int 0, .int 0, .int 0, .int 0, .int 0, .int 0, .int 0])), (101, .inr (.inl (0, [0, 0, 0, 0]))), (102, .inr (.inl (0, [0, 0, 0, 0]))), (103, .inr (.inl (0, [0, 0, 0, 0])))])) (ob := []) rfl (ob_n) ?_
  refine J.newa F hX (t := 0) (atype := .int) (ty := .int) rfl (fun _ => rfl) (aw1 73 (by decide +kernel) rfl) (by decide +kernel) rfl (fun _ _ h => h) 4 (by decide) (by decide +kernel) rfl [0, 0, 0, 0] rfl 104 rfl rfl rfl (fun ad4 had4 => ?_)
  have hJ := jSx_ad had4 (by decide +kernel) hJ
  have ag := agT ag had4
  refine J.run (sn_X5_init F (by decide)) 10 [] (S' := (47, [(0, .ref 100), (1, .ref 10)], [], [(100, .inl (5, [.null, .ref 101, .ref 102, .ref 103, .ref 104, .int 0, .int 0, .int 0, .int 0, .int 0, .int 5, .int 1, .int 0, .int 0, .int 0])), (101, .inr (.inl (0, [0, 0, 0, 0]))), (102, .inr (.inl (0, [0, 0, 0, 0]))), (103, .inr (.inl (0, [0, 0, 0, 0]))), (104, .inr (.inl (0, [0, 0, 0, 0])))])) (ob := []) rfl (ob_n) ?_
  refine J.run (sn_X5_init F (by decide)) 6 [] (S' := (57, [(0, .ref 100), (1, .ref 10)], [], [(100, .inl (5, [.ref 10, .ref 101, .ref 102, .ref 103, .ref 104, .int 0, .int 0, .int 0, .int 0, .int 0, .int 5, .int 1, .int 0, .int (-1), .int 0])), (101, .inr (.inl (0, [0, 0, 0, 0]))), (102, .inr (.inl (0, [0, 0, 0, 0]))), (103, .inr (.inl (0, [0, 0, 0, 0]))), (104, .inr (.inl (0, [0, 0, 0, 0])))])) (ob := []) rfl (ob_n) ?_
  exact J.vret F hRt (Nat.le_of_ble_eq_true rfl) (Nat.le_of_ble_eq_true rfl) rfl (by decide +kernel) ⟨rfl, ag, rfl, rfl⟩
set_option maxRecDepth 100000 in
set_option maxHeartbeats 16000000 in
theorem k_X3_init : CtrA mk_X3_init 1 [.ref 30] [(30, .inl (3, [.null, .int 0, .int 0, .int 0, .int 0, .int 0]))] [31] 1 30 (fun ws' => ws' = [(30, .inl (3, [.ref 31, .int 0, .int 0, .int 0, .int 0, .int (-1)])), (31, .inr (.inl (0, [0, 0, 0, 0, 0, 0, 0, 0, 0, 0, 0, 0, 0, 0, 0, 0, 0, 0, 0, 0, 0, 0, 0, 0, 0, 0, 0, 0, 0, 0])))]) := by
  refine CtrA.of (by decide) (by decide) (fun x ad F hX hJ hRt => ?_)
  show J x 1 (ad, 0, 0) (0, [(0, .ref 30)], [], [(30, .inl (3, [.null, .int 0, .int 0, .int 0, .int 0, .int 0]))])
  refine J.run (sn_X3_init F (by decide)) 4 [] (S' := (7, [(0, .ref 30)], [.int 30, .ref 30], [(30, .inl (3, [.null, .int 0, .int 0, .int 0, .int 0, .int 0]))])) (ob := []) rfl (ob_n) ?_
  refine J.newa F hX (t := 0) (atype := .int) (ty := .int) rfl (fun _ => rfl) (aw1 73 (by decide +kernel) rfl) (by decide +kernel) rfl (fun _ _ h => h) 30 (by decide) (by decide +kernel) rfl [0, 0, 0, 0, 0, 0, 0, 0, 0, 0, 0, 0, 0, 0, 0, 0, 0, 0, 0, 0, 0, 0, 0, 0, 0, 0, 0, 0, 0, 0] rfl 31 rfl rfl rfl (fun ad1 had1 => ?_)
  have hJ := jSx_ad had1 (by decide +kernel) hJ
  have ag := had1
  refine J.run (sn_X3_init F (by decide)) 4 [] (S' := (17, [(0, .ref 30)], [], [(30, .inl (3, [.ref 31, .int 0, .int 0, .int 0, .int 0, .int (-1)])), (31, .inr (.inl (0, [0, 0, 0, 0, 0, 0, 0, 0, 0, 0, 0, 0, 0, 0, 0, 0, 0, 0, 0, 0, 0, 0, 0, 0, 0, 0, 0, 0, 0, 0])))])) (ob := []) rfl (ob_n) ?_
  exact J.vret F hRt (Nat.le_of_ble_eq_true rfl) (Nat.le_of_ble_eq_true rfl) rfl (by decide +kernel) ⟨rfl, ag, rfl, rfl⟩
set_option maxRecDepth 100000 in
set_option maxHeartbeats 16000000 in
theorem k_X2_init : CtrA mk_X2_init 1 [.ref 50, .ref 10] [(50, .inl (2, [.null, .null, .null, .int 0, .null, .null, .null]))] [51, 52, 53, 54, 55] 5 106 (fun ws' => ws' = [(50, .inl (2, [.ref 10, .ref 51, .ref 52, .int 0, .ref 53, .ref 54, .ref 55])), (51, .inr (.inl (0, [0, 0, 0, 0, 0, 0, 0]))), (52, .inr (.inl (0, [0, 0, 0, 0, 0, 0, 0]))), (53, .inr (.inl (0, [0, 0, 0, 0, 0, 0, 0, 0, 0, 0, 0, 0, 0, 0, 0, 0, 0, 0, 0, 0, 0, 0, 0, 0, 0, 0, 0, 0, 0, 0, 0, 0]))), (54, .inr (.inl (0, [0, 0, 0, 0, 0, 0, 0, 0, 0, 0, 0, 0, 0, 0, 0, 0, 0, 0, 0, 0, 0, 0, 0, 0, 0, 0, 0, 0, 0, 0, 0, 0]))), (55, .inr (.inl (0, [0, 0, 0, 0, 0, 0, 0, 0, 0, 0, 0, 0, 0, 0, 0, 0, 0, 0, 0, 0, 0, 0, 0, 0, 0, 0, 0, 0])))]) := by
  refine CtrA.of (by decide) (by decide) (fun x ad F hX hJ hRt => ?_)
  show J x 2 (ad, 0, 0) (0, [(0, .ref 50), (1, .ref 10)], [], [(50, .inl (2, [.null, .null, .null, .int 0, .null, .null, .null]))])
  refine J.run (sn_X2_init F (by decide)) 4 [] (S' := (7, [(0, .ref 50), (1, .ref 10)], [.int 7, .ref 50], [(50, .inl (2, [.null, .null, .null, .int 0, .null, .null, .null]))])) (ob := []) rfl (ob_n) ?_
  refine J.newa F hX (t := 0) (atype := .int) (ty := .int) rfl (fun _ => rfl) (aw1 73 (by decide +kernel) rfl) (by decide +kernel) rfl (fun _ _ h => h) 7 (by decide) (by decide +kernel) rfl [0, 0, 0, 0, 0, 0, 0] rfl 51 rfl rfl rfl (fun ad1 had1 => ?_)
  have hJ := jSx_ad had1 (by decide +kernel) hJ
  have ag := had1
  refine J.run (sn_X2_init F (by decide)) 3 [] (S' := (15, [(0, .ref 50), (1, .ref 10)], [.int 7, .ref 50], [(50, .inl (2, [.null, .ref 51, .null, .int 0, .null, .null, .null])), (51, .inr (.inl (0, [0, 0, 0, 0, 0, 0, 0])))])) (ob := []) rfl (ob_n) ?_
  refine J.newa F hX (t := 0) (atype := .int) (ty := .int) rfl (fun _ => rfl) (aw1 73 (by decide +kernel) rfl) (by decide +kernel) rfl (fun _ _ h => h) 7 (by decide) (by decide +kernel) rfl [0, 0, 0, 0, 0, 0, 0] rfl 52 rfl rfl rfl (fun ad2 had2 => ?_)
  have hJ := jSx_ad had2 (by decide +kernel) hJ
  have ag := agT ag had2
  refine J.run (sn_X2_init F (by decide)) 3 [] (S' := (23, [(0, .ref 50), (1, .ref 10)], [.int 32, .ref 50], [(50, .inl (2, [.null, .ref 51, .ref 52, .int 0, .null, .null, .null])), (51, .inr (.inl (0, [0, 0, 0, 0, 0, 0, 0]))), (52, .inr (.inl (0, [0, 0, 0, 0, 0, 0, 0])))])) (ob := []) rfl (ob_n) ?_
  refine J.newa F hX (t := 0) (atype := .int) (ty := .int) rfl (fun _ => rfl) (aw1 73 (by decide +kernel) rfl) (by decide +kernel) rfl (fun _ _ h => h) 32 (by decide) (by decide +kernel) rfl [0, 0, 0, 0, 0, 0, 0, 0, 0, 0, 0, 0, 0, 0, 0, 0, 0, 0, 0, 0, 0, 0, 0, 0, 0, 0, 0, 0, 0, 0, 0, 0] rfl 53 rfl rfl rfl (fun ad3 had3 => ?_)
  have hJ := jSx_ad had3 (by decide +kernel) hJ
  have ag := agT ag had3
  refine J.run (sn_X2_init F (by decide)) 3 [] (S' := (31, [(0, .ref 50), (1, .ref 10)], [.int 32, .ref 50], [(50, .inl (2, [.null, .ref 51, .ref 52, .int 0, .ref 53, .null, .null])), (51, .inr (.inl (0, [0, 0, 0, 0, 0, 0, 0]))), (52, .inr (.inl (0, [0, 0, 0, 0, 0, 0, 0]))), (53, .inr (.inl (0, [0, 0, 0, 0, 0, 0, 0, 0, 0, 0, 0, 0, 0, 0, 0, 0, 0, 0, 0, 0, 0, 0, 0, 0, 0, 0, 0, 0, 0, 0, 0, 0])))])) (ob := []) rfl (ob_n) ?_
  refine J.newa F hX (t := 0) (atype := .int) (ty := .int) rfl (fun _ => rfl) (aw1 73 (by decide +kernel) rfl) (by decide +kernel) rfl (fun _ _ h => h) 32 (by decide) (by decide +kernel) rfl [0, 0, 0, 0, 0, 0, 0, 0, 0, 0, 0, 0, 0, 0, 0, 0, 0, 0, 0, 0, 0, 0, 0, 0, 0, 0, 0, 0, 0, 0, 0, 0] rfl 54 rfl rfl rfl (fun ad4 had4 => ?_)
  have hJ := jSx_ad had4 (by decide +kernel) hJ
  have ag := agT ag had4
  refine J.run (sn_X2_init F (by decide)) 3 [] (S' := (39, [(0, .ref 50), (1, .ref 10)], [.int 28, .ref 50], [(50, .inl (2, [.null, .ref 51, .ref 52, .int 0, .ref 53, .ref 54, .null])), (51, .inr (.inl (0, [0, 0, 0, 0, 0, 0, 0]))), (52, .inr (.inl (0, [0, 0, 0, 0, 0, 0, 0]))), (53, .inr (.inl (0, [0, 0, 0, 0, 0, 0, 0, 0, 0, 0, 0, 0, 0, 0, 0, 0, 0, 0, 0, 0, 0, 0, 0, 0, 0, 0, 0, 0, 0, 0, 0, 0]))), (54, .inr (.inl (0, [0, 0, 0, 0, 0, 0, 0, 0, 0, 0, 0, 0, 0, 0, 0, 0, 0, 0, 0, 0, 0, 0, 0, 0, 0, 0, 0, 0, 0, 0, 0, 0])))])) (ob := []) rfl (ob_n) ?_
  refine J.newa F hX (t := 0) (atype := .int) (ty := .int) rfl (fun _ => rfl) (aw1 73 (by decide +kernel) rfl) (by decide +kernel) rfl (fun _ _ h => h) 28 (by decide) (by decide +kernel) rfl [0, 0, 0, 0, 0, 0, 0, 0, 0, 0, 0, 0, 0, 0, 0, 0, 0, 0, 0, 0, 0, 0, 0, 0, 0, 0, 0, 0] rfl 55 rfl rfl rfl (fun ad5 had5 => ?_)
  have hJ := jSx_ad had5 (by decide +kernel) hJ
  have ag := agT ag had5
  refine J.run (sn_X2_init F (by decide)) 4 [] (S' := (49, [(0, .ref 50), (1, .ref 10)], [], [(50, .inl (2, [.ref 10, .ref 51, .ref 52, .int 0, .ref 53, .ref 54, .ref 55])), (51, .inr (.inl (0, [0, 0, 0, 0, 0, 0, 0]))), (52, .inr (.inl (0, [0, 0, 0, 0, 0, 0, 0]))), (53, .inr (.inl (0, [0, 0, 0, 0, 0, 0, 0, 0, 0, 0, 0, 0, 0, 0, 0, 0, 0, 0, 0, 0, 0, 0, 0, 0, 0, 0, 0, 0, 0, 0, 0, 0]))), (54, .inr (.inl (0, [0, 0, 0, 0, 0, 0, 0, 0, 0, 0, 0, 0, 0, 0, 0, 0, 0, 0, 0, 0, 0, 0, 0, 0, 0, 0, 0, 0, 0, 0, 0, 0]))), (55, .inr (.inl (0, [0, 0, 0, 0, 0, 0, 0, 0, 0, 0, 0, 0, 0, 0, 0, 0, 0, 0, 0, 0, 0, 0, 0, 0, 0, 0, 0, 0])))])) (ob := []) rfl (ob_n) ?_
  exact J.vret F hRt (Nat.le_of_ble_eq_true rfl) (Nat.le_of_ble_eq_true rfl) rfl (by decide +kernel) ⟨rfl, ag, rfl, rfl⟩
