/-! the start: what the tables and the statement's own words give -/
theorem tw1 {w : Cond} (i : Nat) (h : tables_1_1[i]? = some w) : w ∈ lw_tbl := List.mem_append_right _ (List.mem_append_left _ (List.mem_of_getElem? h))
theorem tw2 {w : Cond} (i : Nat) (h : tables_1_2[i]? = some w) : w ∈ lw_tbl := List.mem_append_right _ (List.mem_append_right _ ((List.mem_append_left _ (List.mem_of_getElem? h))))
theorem tw3 {w : Cond} (i : Nat) (h : tables_1_3[i]? = some w) : w ∈ lw_tbl := List.mem_append_right _ (List.mem_append_right _ (List.mem_append_right _ ((List.mem_append_left _ (List.mem_of_getElem? h)))))
theorem tw4 {w : Cond} (i : Nat) (h : tables_1_4[i]? = some w) : w ∈ lw_tbl := List.mem_append_right _ (List.mem_append_right _ (List.mem_append_right _ (List.mem_append_right _ ((List.mem_append_left _ (List.mem_of_getElem? h))))))
theorem tw5 {w : Cond} (i : Nat) (h : tables_1_5[i]? = some w) : w ∈ lw_tbl := List.mem_append_right _ (List.mem_append_right _ (List.mem_append_right _ (List.mem_append_right _ (List.mem_append_right _ (List.mem_of_getElem? h)))))
theorem st_W {s : State} {args : Array Value} (h : ∀ w ∈ lw_tbl, w.before args s = true) : ∀ w ∈ allW, w.before args s = true := fun w hw => h w (List.mem_filter.mp hw).1
theorem st_arr {s : State} {args : Array Value} {ty : FieldType} (h : (Cond.arrayClass ty).before args s = true) (hn : ∀ C, ty ≠ .object C) : ∃ cA : ClassId, ArrOfT s cA ty ∧ va_RA s cA ty := by
  obtain ⟨cA, kA, comp, h1, h2, h3⟩ := Cond.arrayClass_spec (first := s) (o := none) (idx := []) h
  refine ⟨cA, fun N z => ⟨fun k hk => ?_, kA, h2, comp, h3⟩, ?_⟩
  · cases hk
  · cases ty with
    | object C => exact absurd rfl (hn C)
    | _ => exact h1
theorem st_arq {s : State} {C : String} (h : va_AO C s) : ∃ cA : ClassId, ArrOfT s cA (.object C) ∧ va_RA s cA (.object C) := by
  obtain ⟨comp, cA, kA, h1, h2, h3, h4, h5⟩ := Cond.arrayOver_spec (args := #[]) (first := s) (o := none) (idx := []) h
  exact ⟨cA, fun N z => ⟨(fun k hk => by cases hk), kA, h3, comp, h4⟩, kA, comp, h3, h4, h1, h5⟩
theorem st_AO {s : State} {args : Array Value} (hts : ∀ w ∈ lw_tbl, w.before args s = true) : va_AO RX5 s := va_AO.of (hts (.arrayOver (.object RX5)) (tw1 217 (by decide +kernel)))
set_option maxHeartbeats 4000000 in
theorem st_K {s : State} {args : Array Value} (ht0 : ∀ w ∈ lw_tbl, w.before args s = true) : ∃ (D : va_G) (cA : Nat → ClassId), va_K D vwCl (jT cA) s := by
  have hts := st_W ht0
  obtain ⟨c0, d0, u0⟩ := u_known hts inX0 (hts (.instantiable RX0 6) (aw1 211 (by decide +kernel) rfl))
  obtain ⟨c1, d1, u1⟩ := u_known hts inX1 (hts (.instantiable RX1 8) (aw1 24 (by decide +kernel) rfl))
  obtain ⟨c2, d2, u2⟩ := u_known hts inX2 (hts (.instantiable RX2 7) (aw1 239 (by decide +kernel) rfl))
  obtain ⟨c3, d3, u3⟩ := u_known hts inX3 (hts (.instantiable RX3 6) (aw1 180 (by decide +kernel) rfl))
  obtain ⟨c4, d4, u4⟩ := u_known hts inX4 (hts (.instantiable RX4 8) (aw1 75 (by decide +kernel) rfl))
  obtain ⟨c5, d5, u5⟩ := u_known hts inX5 (hts (.instantiable RX5 15) (aw1 112 (by decide +kernel) rfl))
  obtain ⟨c6, d6, u6⟩ := u_known hts inX6 (hts (.instantiable RX6 9) (aw1 16 (by decide +kernel) rfl))
  obtain ⟨c7, d7, u7⟩ := u_known hts inX7 (hts (.instantiable RX7 27) (aw3 205 (by decide +kernel) rfl))
  obtain ⟨a0, e0, f0⟩ := st_arr (hts (.arrayClass .int) (aw1 73 (by decide +kernel) rfl)) (fun C h => by cases h)
  obtain ⟨a1, e1, f1⟩ := st_arr (hts (.arrayClass .byte) (aw1 110 (by decide +kernel) rfl)) (fun C h => by cases h)
  obtain ⟨a2, e2, f2⟩ := st_arr (hts (.arrayClass .boolean) (aw4 114 (by decide +kernel) rfl)) (fun C h => by cases h)
  obtain ⟨a3, e3, f3⟩ := st_arq (st_AO ht0)
  refine ⟨(fun c => match c with | 0 => c0 | 1 => c1 | 2 => c2 | 3 => c3 | 4 => c4 | 5 => c5 | 6 => c6 | _ => c7, fun c => match c with | 0 => d0 | 1 => d1 | 2 => d2 | 3 => d3 | 4 => d4 | 5 => d5 | 6 => d6 | _ => d7), fun c => match c with | 0 => a0 | 1 => a1 | 2 => a2 | _ => a3, fun c q hq => ?_, fun k q hq => ?_⟩
  · match c, hq with
    | 0, hq => cases hq; exact u0
    | 1, hq => cases hq; exact u1
    | 2, hq => cases hq; exact u2
    | 3, hq => cases hq; exact u3
    | 4, hq => cases hq; exact u4
    | 5, hq => cases hq; exact u5
    | 6, hq => cases hq; exact u6
    | 7, hq => cases hq; exact u7
    | c + 8, hq => cases hq
  · match k, hq with
    | 0, hq => cases hq; exact ⟨e0, f0⟩
    | 1, hq => cases hq; exact ⟨e1, f1⟩
    | 2, hq => cases hq; exact ⟨e2, f2⟩
    | 3, hq => cases hq; exact ⟨e3, f3⟩
    | k + 4, hq => cases hq
def tmS (i : Nat) : Term := .string RX4 (jSI.getD i (0, "")).1
def stC : List Cond := flatC (Jvm.Cond.and given_1 narrow_1)
theorem sm_ex : ∀ i, i < 6 → Cond.exactly (tmS i) "java/lang/String" ∈ stC := by decide +kernel
theorem sm_co : ∀ i, i < 6 → Cond.eq (.field (tmS i) "java/lang/String" "coder" "B") (.int 0) ∈ stC := by decide +kernel
theorem sm_ar : ∀ i, i < 6 → Cond.arrayOf (.field (tmS i) "java/lang/String" "value" "[B") .byte ∈ stC := by decide +kernel
theorem sm_le : ∀ i, i < 6 → Cond.eq (.length (.field (tmS i) "java/lang/String" "value" "[B")) (.int (Int32.ofNat (jSL.getD i 0))) ∈ stC := by decide +kernel
theorem sm_el : ∀ i, i < 6 → ∀ j, j < jSL.getD i 0 → Cond.eq (.elem (.field (tmS i) "java/lang/String" "value" "[B") (.int (Int32.ofNat j))) (.int ((jSB.getD i []).getD j 0)) ∈ stC := by decide +kernel
theorem sm_ne : ∀ i, i < 6 → ∀ j, j < 6 → i ≠ j → Cond.not (Cond.eq (tmS i) (tmS j)) ∈ stC ∨ Cond.not (Cond.eq (tmS j) (tmS i)) ∈ stC := by decide +kernel
theorem sm_cs : Cond.eq (.static "java/lang/String" "COMPACT_STRINGS" "Z") (.int 1) ∈ stC := by decide +kernel
theorem sm_fo : Cond.isRef (.static "jdk/internal/util/Preconditions" "SIOOBE_FORMATTER" "Ljava/util/function/BiFunction;") ∈ stC := by decide +kernel
theorem sm_sr : ∀ i, i < 6 → Cond.stringRef RX4 (jSI.getD i (0, "")).1 (jSI.getD i (0, "")).2 ∈ lw_tbl := by
  intro i hi
  match i, hi with
  | 0, _ => exact (tw2 93 (by decide +kernel))
  | 1, _ => exact (tw2 166 (by decide +kernel))
  | 2, _ => exact (tw2 178 (by decide +kernel))
  | 3, _ => exact (tw2 175 (by decide +kernel))
  | 4, _ => exact (tw2 176 (by decide +kernel))
  | 5, _ => exact (tw2 177 (by decide +kernel))
theorem sm_nl : ∀ q ∈ jN, Cond.methodLinkNest q.1 q.2.1 q.2.2.1 q.2.2.2 ∈ lw_tbl := by
  intro q hq
  simp only [jN, List.mem_cons, List.not_mem_nil, or_false] at hq
  rcases hq with rfl | rfl | rfl | rfl | rfl | rfl
  · exact (tw1 25 (by decide +kernel))
  · exact (tw1 76 (by decide +kernel))
  · exact (tw1 81 (by decide +kernel))
  · exact (tw1 181 (by decide +kernel))
  · exact (tw2 227 (by decide +kernel))
  · exact (tw3 82 (by decide +kernel))
theorem st_S {s : State} {args : Array Value} (hts : ∀ w ∈ lw_tbl, w.before args s = true) (hgv : ∀ w ∈ stC, w.before args s = true) {A : Nat → Prop} (hA : ∀ a : Nat, a < s.heap.size → ¬ A a) : ∃ adK adV : Nat → Nat, vk_S 6 jSL jSB adK adV A s s.heap ∧ ∀ i, i < 6 → vk_R RX4 (jSI.getD i (0, "")).1 (jSI.getD i (0, "")).2 (adK i) s := by
  obtain ⟨adK, adV, h1, h2⟩ := vk_Sof (args := args) (s := s) (N := 6) (tm := tmS) (len := jSL) (byt := jSB) (A := A) (by decide +kernel) (fun i hi => hgv _ (sm_ex i hi)) (fun i hi => hgv _ (sm_co i hi)) (fun i hi => hgv _ (sm_ar i hi)) (fun i hi => hgv _ (sm_le i hi)) (fun i hi j hj => hgv _ (sm_el i hi j hj)) (fun i j hi hj hij => (sm_ne i hi j hj hij).imp (fun h => hgv _ h) (fun h => hgv _ h)) hA
  exact ⟨adK, adV, h1, fun i hi => vk_R.of (hts _ (sm_sr i hi)) (h2 i hi)⟩
