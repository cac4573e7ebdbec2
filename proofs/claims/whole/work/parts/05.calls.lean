/-! returns -/
def Rt (x : Cx) (mc ms : Nat) (Pst : (Nat → Nat) → Option Value → Pw → Prop) : Prop := match x with
  | (p, l, e, R, s, m, args, below, meth, c, D, cA, A, Q) =>
    ∃ (Qc : Array Value → State → Outcome → State → Prop) (free : Addr → Prop), Q = MQ below Qc args s mc ms free ∧ (∀ q, A q → free q) ∧ ∀ (ad : Nat → Nat) (r : Option Value) (ws : Pw) (H : Heap) (locs : List Loc) (t : State), Pst ad r ws → va_P D vwCl (jW cA ad ws) H → va_D A (jW cA ad ws) → va_S A s.heap H locs → t.heap = H → s.WarmedH t.vm → Qc args s (.returned (r.map (jV ad))) t
section RET
variable {x : Cx} {cc : ByteArray} {nL : Nat} {own nm : String} {ret : Option FieldType} {d mc ms pc : Nat} {g : (Nat → Nat) × Nat × Nat} {lv : List (Nat × Value)} {ws : Pw} {Pst : (Nat → Nat) → Option Value → Pw → Prop}
theorem J.iret (F : Fx x cc nL own nm ret d) (hR : Rt x mc ms Pst) (hc : g.2.1 ≤ mc) (hs : g.2.2 ≤ ms) {ty : FieldType} {v : Int32} (hret : ret = some ty) (hn : narrow ty (.int v) = .int v) (hd : decode cc pc = .ok (.ireturn, 1)) (hp : Pst g.1 (some (.int v)) ws) : J x nL g (pc, lv, [.int v], ws) := by
  obtain ⟨p, l, e, R, s, m, args, below, meth, c, D, cA, A, Q⟩ := x
  obtain ⟨hx, hb, hml, hown, hts, hK, hA, hfr, hlo, hrt, hlk, hnm⟩ := F
  obtain ⟨Qc, free, rfl, hf, hq⟩ := hR
  intro H locs ls hl hP hD hS hG
  exact W.widen hc hs (W.zret hx hb (hrt.trans hret) hn (fun t ht hW => hq _ (some (.int v)) ws H locs t hp hP hD hS ht hW) (fun q h => hf _ (hS.2.2 q h)) hd hlk)
theorem J.lret (F : Fx x cc nL own nm ret d) (hR : Rt x mc ms Pst) (hc : g.2.1 ≤ mc) (hs : g.2.2 ≤ ms) {v : Int64} (hret : ret = some .long) (hd : decode cc pc = .ok (.lreturn, 1)) (hp : Pst g.1 (some (.long v)) ws) : J x nL g (pc, lv, [.long v], ws) := by
  obtain ⟨p, l, e, R, s, m, args, below, meth, c, D, cA, A, Q⟩ := x
  obtain ⟨hx, hb, hml, hown, hts, hK, hA, hfr, hlo, hrt, hlk, hnm⟩ := F
  obtain ⟨Qc, free, rfl, hf, hq⟩ := hR
  intro H locs ls hl hP hD hS hG
  exact W.widen hc hs (W.lret hx hb (hrt.trans hret) (fun t ht hW => hq _ (some (.long v)) ws H locs t hp hP hD hS ht hW) (fun q h => hf _ (hS.2.2 q h)) hd hlk)
theorem J.vret (F : Fx x cc nL own nm ret d) (hR : Rt x mc ms Pst) (hc : g.2.1 ≤ mc) (hs : g.2.2 ≤ ms) (hret : ret = none) (hd : decode cc pc = .ok (.return_, 1)) (hp : Pst g.1 none ws) : J x nL g (pc, lv, [], ws) := by
  obtain ⟨p, l, e, R, s, m, args, below, meth, c, D, cA, A, Q⟩ := x
  obtain ⟨hx, hb, hml, hown, hts, hK, hA, hfr, hlo, hrt, hlk, hnm⟩ := F
  obtain ⟨Qc, free, rfl, hf, hq⟩ := hR
  intro H locs ls hl hP hD hS hG
  exact W.widen hc hs (W.vret hx hb (hrt.trans hret) (fun t ht hW => hq _ none ws H locs t hp hP hD hS ht hW) (fun q h => hf _ (hS.2.2 q h)) hd hlk)
theorem J.aret (F : Fx x cc nL own nm ret d) (hR : Rt x mc ms Pst) (hc : g.2.1 ≤ mc) (hs : g.2.2 ≤ ms) {v : Value} {rt : FieldType} (hret : ret = some rt) (hrt9 : (∃ n, rt = .object n) ∨ ∃ t, rt = .array t) (hv : v = .null ∨ ∃ a, v = .ref a) (hd : decode cc pc = .ok (.areturn, 1)) (hp : Pst g.1 (some v) ws) : J x nL g (pc, lv, [v], ws) := by
  obtain ⟨p, l, e, R, s, m, args, below, meth, c, D, cA, A, Q⟩ := x
  obtain ⟨hx, hb, hml, hown, hts, hK, hA, hfr, hlo, hrt, hlk, hnm⟩ := F
  obtain ⟨Qc, free, rfl, hf, hq⟩ := hR
  intro H locs ls hl hP hD hS hG
  exact W.widen hc hs (W.aret hx hb (hrt.trans hret) hrt9 (by rcases hv with rfl | ⟨a, rfl⟩ <;> simp [jV]) (fun t ht hW => hq _ (some v) ws H locs t hp hP hD hS ht hW) (fun q h => hf _ (hS.2.2 q h)) hd hlk)
end RET
/-! contracts -/
abbrev Mk : Type := MethodName × ByteArray × Nat × Option FieldType
def jQ (D : va_G) (cA : Nat → ClassId) (ad : Nat → Nat) (ws : Pw) (sz : Nat) (Post : Option Value → Pw → Prop) : Array Value → State → Outcome → State → Prop := fun _ st oc t =>
  (∃ (r : Option Value) (ws' : Pw), oc = .returned (r.map (jV ad)) ∧ ws'.map Prod.fst = ws.map Prod.fst ∧ Post r ws' ∧ va_P D vwCl (jW cA ad ws') t.heap) ∧ va_F (va_A (jW cA ad ws) sz) st t
def jB (D : va_G) (cA : Nat → ClassId) (ad : Nat → Nat) (ws : Pw) (sz : Nat) : State → Prop := fun U => U.heap.size = sz ∧ va_P D vwCl (jW cA ad ws) U.heap ∧ va_K D vwCl (jT cA) U ∧ va_D (fun _ => True) (jW cA ad ws) ∧ jS ad (va_A (jW cA ad ws) sz) U
/-- from these arguments and this world the method returns, and what it answers and leaves is as Post says; no cell is made -/
def Ctr (k : Mk) (d : Nat) (av : List Value) (ws : Pw) (Post : Option Value → Pw → Prop) : Prop :=
  ∀ (l : Launch) (D : va_G) (cA : Nat → ClassId) (ad : Nat → Nat) (sz : Nat), Met l k.1 (.code k.1 k.2.1 k.2.2.1 k.2.2.2 :: allW) { frames := d, cells := 0, slots := 0, locals := 40 * d } (va_Pc (av.map (jV ad)) (jB D cA ad ws sz)) (jQ D cA ad ws sz Post) 0 0 (va_A (jW cA ad ws) sz)
def jSx (x : Cx) (ad : Nat → Nat) : Prop := match x with
  | (p, l, e, R, s, m, args, below, meth, c, D, cA, A, Q) => jS ad A s
theorem lv_args_map (ad : Nat → Nat) (av : List Value) : ∀ i, lv_args i (av.map (jV ad)) = jL ad (lv_args i av) := by
  induction av with
  | nil => intro i; rfl
  | cons v av ih =>
    intro i
    show (i, jV ad v) :: lv_args (if (jV ad v).category = 2 then i + 2 else i + 1) (av.map (jV ad)) = (i, jV ad v) :: jL ad (lv_args (if v.category = 2 then i + 2 else i + 1) av)
    rw [jV_cat, ih]
theorem lg_sl_map (ad : Nat → Nat) (av : List Value) : (lg_sl (av.map (jV ad))).length = (lg_sl av).length := by
  induction av with
  | nil => rfl
  | cons v av ih =>
    have h : ∀ (u : Value) (us : List Value), (lg_sl (u :: us)).length = (if u.category = 2 then 2 else 1) + (lg_sl us).length := by
      intro u us
      unfold lg_sl
      rw [List.flatMap_cons, List.length_append]
      by_cases hc : u.category = 2 <;> simp [hc]
    rw [List.map_cons, h, h, jV_cat, ih]
theorem Ctr.of {k : Mk} {d : Nat} {av : List Value} {ws : Pw} {Post : Option Value → Pw → Prop} (hy : plainName k.1.cls = true) (hlen : (lg_sl av).length ≤ k.2.2.1)
    (body : ∀ (x : Cx) (ad : Nat → Nat), Fx x k.2.1 k.2.2.1 k.1.cls k.1.name k.2.2.2 d → jSx x ad → Rt x 0 0 (fun ad' r ws' => ad' = ad ∧ ws'.map Prod.fst = ws.map Prod.fst ∧ Post r ws') → J x k.2.2.1 (ad, 0, 0) (0, lv_args 0 av, [], ws)) : Ctr k d av ws Post := by
  intro l D cA ad sz
  refine Met.ofW (cc := k.2.1) (maxL := k.2.2.1) (ret := k.2.2.2) hy rfl ?_
  intro p e s m args below meth c s₁ B hml hv
  obtain ⟨rfl, hsz, hP, hK, hD, hS0⟩ := hv
  subst hsz
  have hts := atoms_spec (ws := .code k.1 k.2.1 k.2.2.1 k.2.2.2 :: allW) B.pre
  have hD' : va_D (va_A (jW cA ad ws) s.heap.size) (jW cA ad ws) := hD.self
  have hbody := body (p, l, e, { frames := d, cells := 0, slots := 0, locals := 40 * d }, s, m, (av.map (jV ad)).toArray, below, meth, c, D, cA, va_A (jW cA ad ws) s.heap.size, MQ below (jQ D cA ad ws s.heap.size Post) (av.map (jV ad)).toArray s 0 0 (va_A (jW cA ad ws) s.heap.size)) ad
    ⟨B.exec, B.bytes, hml, findClass_of_methodNamed B.named, fun w hw => hts w (List.mem_cons_of_mem _ hw), hK, fun q h => Or.inr h, Nat.le_refl _, Nat.le_refl _, B.returns, B.notSynchronized, (name_of_methodNamed B.named B.method).1⟩
    hS0
    ⟨_, _, rfl, fun _ h => h, fun ad' r ws' H locs t hp hP' hD1 hS1 ht hW => by
      obtain ⟨rfl, hk, hpost⟩ := hp
      refine ⟨⟨r, ws', rfl, hk, hpost, by rw [ht]; exact hP'⟩, ?_⟩
      exact ⟨by rw [ht]; exact hS1.1, fun q h1 h2 => by rw [ht]; exact hS1.2.1 q h1 h2⟩⟩
  rw [lg_entry_eq]
  refine hbody s.heap [] _ ?_ hP hD' va_S.rf ⟨Nat.le_refl _, Nat.le_refl _⟩
  have h := lv_entry (av.map (jV ad)) (n := k.2.2.1) (by rw [lg_sl_map]; exact hlen)
  rw [lv_args_map] at h
  exact h
/-! calls -/
def ren (σ : Nat → Nat) (v : Value) : Value := jV σ v
def renE (σ : Nat → Nat) (e : Pe) : Pe := match e with
  | .inl o => .inl (o.1, o.2.map (ren σ))
  | .inr (.inl a) => .inr (.inl a)
  | .inr (.inr a) => .inr (.inr (a.1, a.2.map (fun r => r.map σ)))
def updM (σ : Nat → Nat) : Pw → Pw → Pw
  | W, [] => W
  | W, q :: ws => updM σ (wset W (σ q.1) (renE σ q.2)) ws
theorem jV_ren (ad σ : Nat → Nat) (v : Value) : jV ad (ren σ v) = jV (fun k => ad (σ k)) v := by cases v <;> rfl
theorem ga_map (σ : Nat → Nat) (l : List (Option Nat)) (j : Nat) : ga (l.map (fun r => r.map σ)) j = (ga l j).map σ := by
  induction l generalizing j with
  | nil => rfl
  | cons r l ih =>
    cases j with
    | zero => rfl
    | succ j => exact ih j
theorem jE_ren (cA : Nat → ClassId) (ad σ : Nat → Nat) (e : Pe) : jE cA ad (renE σ e) = jE cA (fun k => ad (σ k)) e := by
  rcases e with o | a | a
  · show Sum.inr (o.1, (o.2.map (ren σ)).map (jV ad)) = Sum.inr (o.1, o.2.map (jV fun k => ad (σ k)))
    rw [List.map_map]
    congr 2
    exact List.map_congr_left fun v _ => jV_ren ad σ v
  · rfl
  · show Sum.inl _ = Sum.inl _
    simp only [List.length_map, ga_map]
    congr 7
    funext j
    cases ga a.2 j <;> rfl
theorem wset_keys (W : Pw) (k : Nat) (e : Pe) : (wset W k e).map Prod.fst = W.map Prod.fst := by
  induction W with
  | nil => rfl
  | cons q W ih =>
    unfold wset
    cases Nat.beq q.1 k with
    | true => rfl
    | false => show q.1 :: _ = q.1 :: _; rw [ih]
theorem updM_keys (σ : Nat → Nat) (ws : Pw) : ∀ W : Pw, (updM σ W ws).map Prod.fst = W.map Prod.fst := by
  induction ws with
  | nil => intro W; rfl
  | cons q ws ih => intro W; show (updM σ (wset W _ _) ws).map Prod.fst = _; rw [ih, wset_keys]
theorem wset_mem {W : Pw} (hn : (W.map Prod.fst).Nodup) {k : Nat} {e : Pe} {q : Nat × Pe} (h : q ∈ wset W k e) : q = (k, e) ∨ (q ∈ W ∧ q.1 ≠ k) := by
  induction W with
  | nil => cases h
  | cons a W ih =>
    have hn2 := List.nodup_cons.mp (show (a.1 :: W.map Prod.fst).Nodup from hn)
    unfold wset at h
    cases hb : Nat.beq a.1 k with
    | true =>
      rw [hb] at h
      have hk := Nat.eq_of_beq_eq_true hb
      rcases List.mem_cons.mp h with rfl | h
      · exact Or.inl (by rw [← hk])
      · exact Or.inr ⟨List.mem_cons_of_mem _ h, fun z => hn2.1 (by rw [hk, ← z]; exact List.mem_map.mpr ⟨q, h, rfl⟩)⟩
    | false =>
      rw [hb] at h
      rcases List.mem_cons.mp h with rfl | h
      · exact Or.inr ⟨List.mem_cons_self, fun z => by rw [z, Nat.beq_refl] at hb; cases hb⟩
      · rcases ih hn2.2 h with h | h
        · exact Or.inl h
        · exact Or.inr ⟨List.mem_cons_of_mem _ h.1, h.2⟩
theorem updM_mem {σ : Nat → Nat} {ws : Pw} : ∀ {W : Pw}, (W.map Prod.fst).Nodup → ∀ {q : Nat × Pe}, q ∈ updM σ W ws → (∃ z ∈ ws, q = (σ z.1, renE σ z.2)) ∨ (q ∈ W ∧ ∀ z ∈ ws, q.1 ≠ σ z.1) := by
  induction ws with
  | nil => intro W _ q h; exact Or.inr ⟨h, fun z hz => by cases hz⟩
  | cons a ws ih =>
    intro W hn q h
    rcases ih (by rw [wset_keys]; exact hn) (show q ∈ updM σ (wset W (σ a.1) (renE σ a.2)) ws from h) with ⟨z, hz, e⟩ | ⟨h1, h2⟩
    · exact Or.inl ⟨z, List.mem_cons_of_mem _ hz, e⟩
    · rcases wset_mem hn h1 with e | ⟨h3, h4⟩
      · exact Or.inl ⟨a, List.mem_cons_self, e⟩
      · exact Or.inr ⟨h3, fun z hz => by
          rcases List.mem_cons.mp hz with rfl | hz
          · exact h4
          · exact h2 z hz⟩
theorem va_P_mem {D : va_G} {cl : List vw_C} {w : va_W} {H : Heap} : va_P D cl w H ↔ ∀ q ∈ w, va_at D cl q H := by
  constructor
  · intro h q hq
    obtain ⟨i, hi⟩ := List.getElem?_of_mem hq
    exact h i q hi
  · intro h k q hk
    exact h q (List.mem_of_getElem? hk)
theorem va_D_keys {A : Nat → Prop} {w : va_W} : va_D A w ↔ (w.map Prod.fst).Nodup ∧ ∀ k ∈ w.map Prod.fst, A k := by
  constructor
  · intro h
    refine ⟨List.nodup_iff_pairwise_ne.mpr (List.pairwise_iff_getElem.mpr fun i j hi hj hij e => ?_), fun k hk => ?_⟩
    · rw [List.length_map] at hi hj
      simp only [List.getElem_map] at e
      have := h.1 i j (w[i]) (w[j]) (List.getElem?_eq_getElem hi) (List.getElem?_eq_getElem hj) e
      omega
    · obtain ⟨q, hq, rfl⟩ := List.mem_map.mp hk
      obtain ⟨i, hi⟩ := List.getElem?_of_mem hq
      exact h.2 i q hi
  · intro h
    refine ⟨fun i j a b hi hj e => ?_, fun k q hk => h.2 _ (List.mem_map.mpr ⟨q, List.mem_of_getElem? hk, rfl⟩)⟩
    have hi' : (w.map Prod.fst)[i]? = some a.1 := by rw [List.getElem?_map, hi]; rfl
    have hj' : (w.map Prod.fst)[j]? = some a.1 := by rw [List.getElem?_map, hj, e]; rfl
    have hl : i < (w.map Prod.fst).length := (List.getElem?_eq_some_iff.mp hi').1
    exact (List.getElem?_inj hl h.1).mp (hi'.trans hj'.symm)
theorem jW_keys (cA : Nat → ClassId) (ad : Nat → Nat) (ws : Pw) : (jW cA ad ws).map Prod.fst = (ws.map Prod.fst).map ad := by
  unfold jW
  rw [List.map_map, List.map_map]
  rfl
theorem va_D_same {A : Nat → Prop} {cA : Nat → ClassId} {ad : Nat → Nat} {ws ws' : Pw} (hk : ws'.map Prod.fst = ws.map Prod.fst) (h : va_D A (jW cA ad ws)) : va_D A (jW cA ad ws') := by
  rw [va_D_keys, jW_keys] at h ⊢
  rw [hk]
  exact h
theorem wget_mem {ws : Pw} {k : Nat} {e : Pe} (h : wget ws k = some e) : (k, e) ∈ ws := by
  obtain ⟨i, hi, -⟩ := wget_at h
  exact List.mem_of_getElem? hi
/-- the callee's world within the caller's -/
theorem sub_world {σ : Nat → Nat} {W ws : Pw} (hsub : ws.map (fun q => wget W (σ q.1)) = ws.map (fun q => some (renE σ q.2))) : ∀ q ∈ ws, (σ q.1, renE σ q.2) ∈ W := by
  intro q hq
  have h := List.map_inj_left.mp hsub q hq
  exact wget_mem h
theorem jS_call {s U : State} {A A' : Nat → Prop} {H : Heap} {locs : List Loc} {ad : Nat → Nat} {σ : Nat → Nat} (hσ : ∀ i, i < 17 → σ (1000 + i) = 1000 + i) (hJ : jS ad A s) (hS : va_S A s.heap H locs) (hAA : ∀ q, A' q → A q) (hH : U.heap = H) (hW : s.WarmedH U.vm) : jS (fun k => ad (σ k)) A' U := by
  obtain ⟨h1, h2, h4, h5, h6, h7⟩ := hJ
  refine ⟨?_, fun i hi => ?_, fun q hq => va_Nw.warmM hW (h4 q hq), va_AO.moved hW.alike h5, ?_, ?_⟩
  · have h3 : vk_S 6 jSL jSB (fun i => ad (1000 + i)) (fun i => ad (1010 + i)) A' U U.heap := by
      rw [hH]
      exact ((h1.kept (fun a z1 z2 => hS.2.1 a z1 z2)).narrow hAA).moved hW.alike
    refine ⟨fun i hi => ?_, fun i j hi hj e => h3.2 i j hi hj ?_⟩
    · have h9 := h3.1 i hi
      have e1 : σ (1010 + i) = 1010 + i := by
        have := hσ (10 + i) (by omega)
        rw [show 1000 + (10 + i) = 1010 + i by omega] at this
        exact this
      dsimp only at h9 ⊢
      rw [hσ i (by omega), e1]
      exact h9
    · dsimp only at e ⊢
      rw [hσ i (by omega), hσ j (by omega)] at e
      exact e
  · dsimp only
    rw [hσ i (by omega)]
    exact (h2 i hi).warm hW
  · rw [hH]
    exact ((h6.kept (fun a z1 z2 => hS.2.1 a z1 z2)).narrow hAA).moved hW.alike
  · dsimp only
    rw [show σ 1016 = 1016 from hσ 16 (by omega), hH]
    exact h7.imp (fun h => ((h.kept (fun a z1 z2 => hS.2.1 a z1 z2)).narrow hAA).moved hW.alike) (fun h => ((h.kept (fun a z1 z2 => hS.2.1 a z1 z2)).narrow hAA).moved hW.alike)
theorem jB_blind {av : List Value} {D : va_G} {cA : Nat → ClassId} {ad : Nat → Nat} {ws : Pw} {sz : Nat} : FrameBlind (va_Pc av (jB D cA ad ws sz)) := by
  intro a U g mk h
  obtain ⟨h0, h1, h2, h3, h4, h5, h6, h7, h8, h9, h10⟩ := h
  refine ⟨h0, h1, h2, va_K.moved (u := U) (U := U.calling g mk a) (Vm.Alike.refl U.vm) h3, h4, ?_, fun i hi => vk_R.same (u := U) (U := U.calling g mk a) rfl (h6 i hi), fun q hq => va_Nw.same (U := U.calling g mk a) rfl rfl (h7 q hq), va_AO.moved (u := U) (U := U.calling g mk a) (Vm.Alike.refl U.vm) h8, va_Z.moved (u := U) (U := U.calling g mk a) (Vm.Alike.refl U.vm) h9, h10.imp (fun h => va_Z.moved (u := U) (U := U.calling g mk a) (Vm.Alike.refl U.vm) h) (fun h => va_Z.moved (u := U) (U := U.calling g mk a) (Vm.Alike.refl U.vm) h)⟩
  exact vk_S.moved (u := U) (U := U.calling g mk a) (Vm.Alike.refl U.vm) h5
theorem call_core {p : Program} {l : Launch} {e : Env} {R : Room} {s : State} {m : MethodId} {args : Array Value} {below : List Frame} {meth : Method} {c : Code} {D : va_G} {cA : Nat → ClassId} {A : Nat → Prop} {Q : State → Prop} {nL : Nat} {ad : Nat → Nat} {cells slots pc : Nat} {lv : List (Nat × Value)} {st rest : List Value} {W ws : Pw} {σ : Nat → Nat} {Post : Option Value → Pw → Prop} {a' : Array Value}
    (hA : ∀ q : Nat, s.heap.size ≤ q → A q) (hsub : ws.map (fun q => wget W (σ q.1)) = ws.map (fun q => some (renE σ q.2)))
    (hrun : ∀ (H : Heap) (locs : List Loc) (ls : Array Slot), lv_has ls nL (jL ad lv) → va_P D vwCl (jW cA ad W) H → va_D A (jW cA ad W) → va_S A s.heap H locs → cells ≤ R.cells ∧ slots ≤ R.slots → (∀ q, va_A (jW cA (fun k => ad (σ k)) ws) H.size q → A q) → va_P D vwCl (jW cA (fun k => ad (σ k)) ws) H → va_D (fun _ => True) (jW cA (fun k => ad (σ k)) ws) →
      va_Run p l e R s m args below meth c H locs cells slots 0 0 (F0 m pc ls (st.map (jV ad))) (rest.map (jV ad)) (jQ D cA (fun k => ad (σ k)) ws H.size Post a') (va_A (jW cA (fun k => ad (σ k)) ws) H.size))
    (hnd : ((ws.map Prod.fst).map σ).Nodup)
    (kk : ∀ (r : Option Value) (ws' : Pw), ws'.map Prod.fst = ws.map Prod.fst → Post r ws' → J (p, l, e, R, s, m, args, below, meth, c, D, cA, A, Q) nL (ad, cells, slots) (pc + 3, lv, (r.map (ren σ)).toList ++ rest, updM σ W ws')) : J (p, l, e, R, s, m, args, below, meth, c, D, cA, A, Q) nL (ad, cells, slots) (pc, lv, st, W) := by
  intro H locs ls hl hP hD hS hG
  have hmem := sub_world hsub
  have hinj : ∀ a ∈ W, ∀ b ∈ W, ad a.1 = ad b.1 → a = b := by
    intro a ha b hb hab
    obtain ⟨i, hi⟩ := List.getElem?_of_mem ha
    obtain ⟨j, hj⟩ := List.getElem?_of_mem hb
    have hij := hD.1 i j _ _ (jW_at (k := a.1) (e := a.2) hi) (jW_at (k := b.1) (e := b.2) hj) hab
    subst hij
    rw [hi] at hj
    exact Option.some.inj hj
  have hin : ∀ q ∈ jW cA (fun k => ad (σ k)) ws, ∃ z ∈ W, q = (ad z.1, jE cA ad z.2) := by
    intro q hq
    obtain ⟨z, hz, rfl⟩ := List.mem_map.mp hq
    exact ⟨_, hmem z hz, by rw [jE_ren]⟩
  have hAA : ∀ q, va_A (jW cA (fun k => ad (σ k)) ws) H.size q → A q := by
    intro q hq
    rcases hq with ⟨k, e, h⟩ | h
    · obtain ⟨z, hz, e1⟩ := hin _ (List.mem_of_getElem? h)
      obtain ⟨i, hi⟩ := List.getElem?_of_mem hz
      have := hD.2 i _ (jW_at (k := z.1) (e := z.2) hi)
      rw [show q = ad z.1 from congrArg Prod.fst e1]
      exact this
    · exact hA q (Nat.le_trans hS.1 h)
  have hPc : va_P D vwCl (jW cA (fun k => ad (σ k)) ws) H := by
    rw [va_P_mem] at hP ⊢
    intro q hq
    obtain ⟨z, hz, rfl⟩ := hin q hq
    exact hP _ (List.mem_map.mpr ⟨z, hz, rfl⟩)
  have hDc : va_D (fun _ => True) (jW cA (fun k => ad (σ k)) ws) := by
    rw [va_D_keys, jW_keys]
    refine ⟨?_, fun _ _ => trivial⟩
    rw [show ((ws.map Prod.fst).map fun k => ad (σ k)) = ((ws.map Prod.fst).map σ).map ad by simp only [List.map_map]; rfl]
    refine List.nodup_iff_pairwise_ne.mpr (List.pairwise_iff_getElem.mpr fun i j hi hj hij e1 => ?_)
    rw [List.length_map] at hi hj
    simp only [List.getElem_map] at e1
    have h1 := (List.pairwise_iff_getElem.mp (List.nodup_iff_pairwise_ne.mp hnd)) i j hi hj hij
    apply h1
    simp only [List.getElem_map]
    rw [List.length_map, List.length_map] at hi hj
    have g1 := hmem (ws[i]) (List.getElem_mem hi)
    have g2 := hmem (ws[j]) (List.getElem_mem hj)
    exact congrArg Prod.fst (hinj _ g1 _ g2 e1)
  intro T hT X
  obtain ⟨v, st₀, t, T', L, h0, X', hL, e1, e2, ⟨⟨r, ws', hv, hk, hp, hPt⟩, hz, hkp⟩, st9⟩ := hrun H locs ls hl hP hD hS hG hAA hPc hDc T hT X
  cases hv
  rw [h0] at hz hkp
  have hwn : (W.map Prod.fst).Nodup := by
    have := (va_D_keys.mp hD).1
    rw [jW_keys] at this
    refine List.nodup_iff_pairwise_ne.mpr (List.pairwise_iff_getElem.mpr fun i j hi hj hij e1 => ?_)
    refine (List.pairwise_iff_getElem.mp (List.nodup_iff_pairwise_ne.mp this)) i j (by rw [List.length_map]; exact hi) (by rw [List.length_map]; exact hj) hij ?_
    simp only [List.getElem_map] at e1 ⊢
    rw [e1]
  have hP' : va_P D vwCl (jW cA ad (updM σ W ws')) T'.heap := by
    rw [va_P_mem] at hP hPt ⊢
    intro q hq
    obtain ⟨z, hz9, rfl⟩ := List.mem_map.mp hq
    rcases updM_mem hwn hz9 with ⟨z1, hz1, rfl⟩ | ⟨hzW, hne⟩
    · have := hPt _ (List.mem_map.mpr ⟨z1, hz1, rfl⟩)
      rw [e1]
      show va_at D vwCl (ad (σ z1.1), jE cA ad (renE σ z1.2)) t.heap
      rw [jE_ren]
      exact this
    · have hz2 := hP _ (List.mem_map.mpr ⟨z, hzW, rfl⟩)
      refine hz2.kept ?_
      rw [e1]
      refine hkp (ad z.1) hz2.lt fun hq9 => ?_
      rcases hq9 with ⟨k, e, h⟩ | h
      · have hkz : ad z.1 ∈ (jW cA (fun k => ad (σ k)) ws).map Prod.fst := List.mem_map.mpr ⟨_, List.mem_of_getElem? h, rfl⟩
        rw [jW_keys, ← hk] at hkz
        obtain ⟨j, hj, ej⟩ := List.mem_map.mp hkz
        have hj2 := hj
        rw [hk] at hj2
        obtain ⟨z3, hz3, rfl⟩ := List.mem_map.mp hj
        obtain ⟨z4, hz4, e4⟩ := List.mem_map.mp hj2
        have g1 := hinj _ (hmem z4 hz4) _ hzW (by show ad (σ z4.1) = ad z.1; rw [e4]; exact ej)
        exact hne z3 hz3 (by rw [← g1]; show σ z4.1 = σ z3.1; rw [e4])
      · exact absurd hz2.lt (Nat.not_lt.mpr h)
  have hS' : va_S A s.heap T'.heap (locs ++ L) := ⟨Nat.le_trans hS.1 (by rw [e1]; exact hz), fun q h1 h2 => by rw [e1, hkp q (Nat.lt_of_lt_of_le h1 hS.1) (fun z => h2 (hAA q z))]; exact hS.2.1 q h1 h2, fun q hq => by
    rcases List.mem_append.mp hq with h | h
    · exact hS.2.2 q h
    · exact hAA _ (hL q h)⟩
  have hfin := kk r ws' hk hp T'.heap (locs ++ L) ls hl hP' (va_D_same (updM_keys σ ws' W) hD) hS' hG T' rfl X'
  obtain ⟨t2, a1, b1⟩ := hfin
  refine ⟨t2, st9 t2 ?_, b1⟩
  have hstk : ((r.map (ren σ)).toList ++ rest).map (jV ad) = (r.map (jV fun k => ad (σ k))).toList ++ rest.map (jV ad) := by
    cases r with
    | none => rfl
    | some v => show jV ad (ren σ v) :: rest.map (jV ad) = jV (fun k => ad (σ k)) v :: rest.map (jV ad); rw [jV_ren]
  rw [← hstk]
  exact a1
def Lk (own : String) (idx : Nat) (k : Mk) (n : Nat) : Prop := Cond.methodLink own idx k.1 ∈ allW ∧ Cond.initialized k.1.cls ∈ allW ∧ Cond.code k.1 k.2.1 k.2.2.1 k.2.2.2 ∈ allW ∧ k.1.cls ≠ "java/lang/invoke/MethodHandle" ∧ k.1.cls ≠ "java/lang/invoke/VarHandle" ∧ (parseMethodDescriptor k.1.desc).map (fun d => d.parameters.length) = some n ∧ k.2.2.1 ≤ 21
theorem J.callS {x : Cx} {cc : ByteArray} {nL : Nat} {own nm : String} {ret : Option FieldType} {d : Nat} (F : Fx x cc nL own nm ret d) {ad : Nat → Nat} {cells slots : Nat} (hJ : jSx x ad) {pc idx n : Nat} {k : Mk} (hL : Lk own idx k n) (hst9 : Cond.static k.1 ∈ allW) (hd : decode cc pc = .ok (.invokestatic idx, 3)) {d' : Nat} {av : List Value} {ws : Pw} {Post : Option Value → Pw → Prop} (hC : Ctr k d' av ws Post) (σ : Nat → Nat) (hdd : d' + 1 ≤ d) {lv : List (Nat × Value)} {st : List Value} {W : Pw} (rest : List Value) (hst : st = (av.map (ren σ)).reverse ++ rest) (hn : av.length = n) (hcs : Nat.ble (csum rest) 8 = true)
    (hσ : ∀ i, i < 17 → σ (1000 + i) = 1000 + i) (hsub : ws.map (fun q => wget W (σ q.1)) = ws.map (fun q => some (renE σ q.2))) (hnd : ((ws.map Prod.fst).map σ).Nodup)
    (kk : ∀ (r : Option Value) (ws' : Pw), ws'.map Prod.fst = ws.map Prod.fst → Post r ws' → J x nL (ad, cells, slots) (pc + 3, lv, (r.map (ren σ)).toList ++ rest, updM σ W ws')) : J x nL (ad, cells, slots) (pc, lv, st, W) := by
  obtain ⟨p, l, e, R, s, m, args, below, meth, c, D, cA, A, Q⟩ := x
  obtain ⟨hx, hb, hml, hown, hts, hK, hA, hfr, hlo, hrt, hlk, hnm⟩ := F
  obtain ⟨l1, l2, l3, l4, l5, l6, l7⟩ := hL
  subst hst
  refine call_core (σ := σ) (rest := rest) (a' := (av.map (jV fun k => ad (σ k))).toArray) hA hsub (fun H locs ls hl hP hD hS hG hAA hPc hDc => ?_) hnd kk
  refine va_runS (As := av.map (jV fun k => ad (σ k))) (n := n) (Ts := allW) (bytes := k.2.1) (maxL := k.2.2.1) (nL := nL) ⟨hx, hb, hml, hown, hts⟩ (hC l D cA (fun k => ad (σ k)) H.size) ⟨callB_of n hts (allW_goodIn (fun _ h => h) l3) rfl rfl rfl (hts _ l2) (hts _ l1) ⟨l4, l5, l6⟩ ⟨by show d' + 1 ≤ R.frames; omega, by show 8 + (k.2.2.1 + 11) + 40 * d' ≤ R.locals; omega⟩, hts _ hst9⟩ ⟨jB_blind, fun U hU hW => ?_⟩ rfl ?_ hl.1 ?_ ?_ hd ⟨hG.1, hG.2⟩
  · exact ⟨rfl, by rw [hU], by rw [hU]; exact hPc, va_K.moved hW.alike hK, hDc, jS_call hσ hJ hS hAA hU hW⟩
  · rw [List.length_map]; exact hn
  · show ((av.map (ren σ)).reverse ++ rest).map (jV ad) = (av.map (jV fun k => ad (σ k))).reverse ++ rest.map (jV ad)
    rw [List.map_append, List.map_reverse, List.map_map]
    congr 2
    exact List.map_congr_left fun v _ => jV_ren ad σ v
  · show 2 * 0 + ((rest.map (jV ad)).map fun v => v.category).sum ≤ 8
    rw [csum_map]
    have := Nat.le_of_ble_eq_true hcs
    omega
theorem J.callV {x : Cx} {cc : ByteArray} {nL : Nat} {own nm : String} {ret : Option FieldType} {d : Nat} (F : Fx x cc nL own nm ret d) {ad : Nat → Nat} {cells slots : Nat} (hJ : jSx x ad) {pc idx n : Nat} {k : Mk} (hL : Lk own idx k n) (hin9 : Cond.instanceMethod k.1 ∈ allW) (hsel9 : Cond.selects k.1.cls k.1 k.1 ∈ allW) (hd : decode cc pc = .ok (.invokevirtual idx, 3)) {d' k0 ci N : Nat} {T : u_T} {fs : List Value} {av : List Value} {ws : Pw} {Post : Option Value → Pw → Prop} (hC : Ctr k d' (.ref k0 :: av) ws Post) (σ : Nat → Nat) (hdd : d' + 1 ≤ d) {lv : List (Nat × Value)} {st : List Value} {W : Pw} (rest : List Value) (hst : st = (av.map (ren σ)).reverse ++ .ref (σ k0) :: rest) (hn : av.length = n) (hcs : Nat.ble (csum rest) 8 = true)
    (hrc : wget ws k0 = some (.inl (ci, fs))) (hci : vwCl[ci]? = some (k.1.cls, T, N))
    (hσ : ∀ i, i < 17 → σ (1000 + i) = 1000 + i) (hsub : ws.map (fun q => wget W (σ q.1)) = ws.map (fun q => some (renE σ q.2))) (hnd : ((ws.map Prod.fst).map σ).Nodup)
    (kk : ∀ (r : Option Value) (ws' : Pw), ws'.map Prod.fst = ws.map Prod.fst → Post r ws' → J x nL (ad, cells, slots) (pc + 3, lv, (r.map (ren σ)).toList ++ rest, updM σ W ws')) : J x nL (ad, cells, slots) (pc, lv, st, W) := by
  obtain ⟨p, l, e, R, s, m, args, below, meth, c, D, cA, A, Q⟩ := x
  obtain ⟨hx, hb, hml, hown, hts, hK, hA, hfr, hlo, hrt, hlk, hnm⟩ := F
  obtain ⟨l1, l2, l3, l4, l5, l6, l7⟩ := hL
  subst hst
  refine call_core (σ := σ) (rest := rest) (a' := (Value.ref (ad (σ k0)) :: av.map (jV fun k => ad (σ k))).toArray) hA hsub (fun H locs ls hl hP hD hS hG hAA hPc hDc => ?_) hnd kk
  obtain ⟨j, hj, -⟩ := wget_at hrc
  refine va_runV (C := k.1.cls) (b := ad (σ k0)) (As := av.map (jV fun k => ad (σ k))) (n := n) (Ts := allW) (bytes := k.2.1) (maxL := k.2.2.1) (nL := nL) ⟨hx, hb, hml, hown, hts⟩ (hC l D cA (fun k => ad (σ k)) H.size) ⟨callB_of n hts (allW_goodIn (fun _ h => h) l3) rfl rfl rfl (hts _ l2) (hts _ l1) ⟨l4, l5, l6⟩ ⟨by show d' + 1 ≤ R.frames; omega, by show 8 + (k.2.2.1 + 11) + 40 * d' ≤ R.locals; omega⟩, hts _ hin9, hts _ hsel9⟩ ⟨jB_blind, va_recv hK hPc hci (jW_at hj), fun U hU hW => ?_⟩ rfl ?_ hl.1 ?_ ?_ hd ⟨hG.1, hG.2⟩
  · exact ⟨rfl, by rw [hU], by rw [hU]; exact hPc, va_K.moved hW.alike hK, hDc, jS_call hσ hJ hS hAA hU hW⟩
  · rw [List.length_map]; exact hn
  · show ((av.map (ren σ)).reverse ++ .ref (σ k0) :: rest).map (jV ad) = (av.map (jV fun k => ad (σ k))).reverse ++ .ref (ad (σ k0)) :: rest.map (jV ad)
    rw [List.map_append, List.map_reverse, List.map_map]
    congr 2
    exact List.map_congr_left fun v _ => jV_ren ad σ v
  · show 2 * 0 + ((rest.map (jV ad)).map fun v => v.category).sum ≤ 8
    rw [csum_map]
    have := Nat.le_of_ble_eq_true hcs
    omega
def Lk9 (k : Mk) (n : Nat) : Prop := Cond.initialized k.1.cls ∈ allW ∧ Cond.code k.1 k.2.1 k.2.2.1 k.2.2.2 ∈ allW ∧ k.1.cls ≠ "java/lang/invoke/MethodHandle" ∧ k.1.cls ≠ "java/lang/invoke/VarHandle" ∧ (parseMethodDescriptor k.1.desc).map (fun d => d.parameters.length) = some n ∧ k.2.2.1 ≤ 21
theorem J.callSN {x : Cx} {cc : ByteArray} {nL : Nat} {own nm : String} {ret : Option FieldType} {d : Nat} (F : Fx x cc nL own nm ret d) {ad : Nat → Nat} {cells slots : Nat} (hJ : jSx x ad) {pc idx n : Nat} {k : Mk} (hNn : (own, idx, k.1, RX6) ∈ jN) (hL : Lk9 k n) (hst9 : Cond.static k.1 ∈ allW) (hd : decode cc pc = .ok (.invokestatic idx, 3)) {d' : Nat} {av : List Value} {ws : Pw} {Post : Option Value → Pw → Prop} (hC : Ctr k d' av ws Post) (σ : Nat → Nat) (hdd : d' + 1 ≤ d) {lv : List (Nat × Value)} {st : List Value} {W : Pw} (rest : List Value) (hst : st = (av.map (ren σ)).reverse ++ rest) (hn : av.length = n) (hcs : Nat.ble (csum rest) 8 = true)
    (hσ : ∀ i, i < 17 → σ (1000 + i) = 1000 + i) (hsub : ws.map (fun q => wget W (σ q.1)) = ws.map (fun q => some (renE σ q.2))) (hnd : ((ws.map Prod.fst).map σ).Nodup)
    (kk : ∀ (r : Option Value) (ws' : Pw), ws'.map Prod.fst = ws.map Prod.fst → Post r ws' → J x nL (ad, cells, slots) (pc + 3, lv, (r.map (ren σ)).toList ++ rest, updM σ W ws')) : J x nL (ad, cells, slots) (pc, lv, st, W) := by
  obtain ⟨p, l, e, R, s, m, args, below, meth, c, D, cA, A, Q⟩ := x
  obtain ⟨hx, hb, hml, hown, hts, hK, hA, hfr, hlo, hrt, hlk, hnm⟩ := F
  obtain ⟨l2, l3, l4, l5, l6, l7⟩ := hL
  subst hst
  refine call_core (σ := σ) (rest := rest) (a' := (av.map (jV fun k => ad (σ k))).toArray) hA hsub (fun H locs ls hl hP hD hS hG hAA hPc hDc => ?_) hnd kk
  refine va_runSN (host := RX6) (As := av.map (jV fun k => ad (σ k))) (n := n) (Ts := allW) (bytes := k.2.1) (maxL := k.2.2.1) (nL := nL) ⟨hx, hb, hml, hown, hts⟩ (hC l D cA (fun k => ad (σ k)) H.size) ⟨va_cnB n hts (allW_goodIn (fun _ h => h) l3) rfl rfl rfl (hJ.2.2.1 _ hNn) (hts _ l2) ⟨l4, l5, l6⟩ ⟨by show d' + 1 ≤ R.frames; omega, by show 8 + (k.2.2.1 + 11) + 40 * d' ≤ R.locals; omega⟩, hts _ hst9, trivial⟩ ⟨jB_blind, fun U hU hW => ?_⟩ rfl ?_ hl.1 ?_ ?_ hd ⟨hG.1, hG.2⟩
  · exact ⟨rfl, by rw [hU], by rw [hU]; exact hPc, va_K.moved hW.alike hK, hDc, jS_call hσ hJ hS hAA hU hW⟩
  · rw [List.length_map]; exact hn
  · show ((av.map (ren σ)).reverse ++ rest).map (jV ad) = (av.map (jV fun k => ad (σ k))).reverse ++ rest.map (jV ad)
    rw [List.map_append, List.map_reverse, List.map_map]
    congr 2
    exact List.map_congr_left fun v _ => jV_ren ad σ v
  · show 2 * 0 + ((rest.map (jV ad)).map fun v => v.category).sum ≤ 8
    rw [csum_map]
    have := Nat.le_of_ble_eq_true hcs
    omega
