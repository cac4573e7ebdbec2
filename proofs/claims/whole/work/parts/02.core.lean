/-! the machine's state as data: cells by places, an assignment of addresses to places -/
abbrev Pe : Type := (Nat × List Value) ⊕ ((Nat × List Int32) ⊕ (Nat × List (Option Nat)))
abbrev Pw : Type := List (Nat × Pe)
abbrev Sx : Type := Nat × List (Nat × Value) × List Value × Pw
abbrev Op : Type := List Nat → Sx → Option (List Nat × Sx × List Prop)
def jV (ad : Nat → Nat) (v : Value) : Value := match v with
  | .ref a => .ref (ad a)
  | .int x => .int x
  | .long x => .long x
  | .float x => .float x
  | .double x => .double x
  | .null => .null
  | .retAddr x => .retAddr x
def gi : List Int32 → Nat → Int32
  | [], _ => 0
  | x :: _, 0 => x
  | _ :: l, k + 1 => gi l k
def ga : List (Option Nat) → Nat → Option Nat
  | [], _ => none
  | x :: _, 0 => x
  | _ :: l, k + 1 => ga l k
theorem gi_eq (l : List Int32) (k : Nat) : gi l k = l.getD k 0 := by
  induction l generalizing k with
  | nil => rfl
  | cons x l ih =>
    cases k with
    | zero => rfl
    | succ k => simpa [gi] using ih k
theorem ga_eq (l : List (Option Nat)) (k : Nat) : ga l k = l.getD k none := by
  induction l generalizing k with
  | nil => rfl
  | cons x l ih =>
    cases k with
    | zero => rfl
    | succ k => simpa [ga] using ih k
def jE (cA : Nat → ClassId) (ad : Nat → Nat) (e : Pe) : va_E := match e with
  | .inl o => .inr (o.1, o.2.map (jV ad))
  | .inr (.inl a) => .inl (cA a.1, a.2.length, .inl (fun j => gi a.2 j))
  | .inr (.inr a) => .inl (cA a.1, a.2.length, .inr (.inr (.inr (.inr (fun j => (ga a.2 j).map ad)))))
def jW (cA : Nat → ClassId) (ad : Nat → Nat) (ws : Pw) : va_W := ws.map (fun q => (ad q.1, jE cA ad q.2))
def jL (ad : Nat → Nat) (lv : List (Nat × Value)) : List (Nat × Value) := lv.map (fun q => (q.1, jV ad q.2))
def jT (cA : Nat → ClassId) : List (ClassId × FieldType) := [(cA 0, .int), (cA 1, .byte), (cA 2, .boolean), (cA 3, .object "SilenceFines$Sitting")]
def wget : Pw → Nat → Option Pe
  | [], _ => none
  | q :: ws, k => bif Nat.beq q.1 k then some q.2 else wget ws k
def wset : Pw → Nat → Pe → Pw
  | [], _, _ => []
  | q :: ws, k, e => bif Nat.beq q.1 k then (q.1, e) :: ws else q :: wset ws k e
theorem wget_at {ws : Pw} {k : Nat} {e : Pe} (h : wget ws k = some e) : ∃ i : Nat, ws[i]? = some (k, e) ∧ ∀ e', wset ws k e' = ws.set i (k, e') := by
  induction ws with
  | nil => cases h
  | cons q ws ih =>
    unfold wget at h
    cases hb : Nat.beq q.1 k with
    | true =>
      rw [hb] at h
      have hk : q.1 = k := Nat.eq_of_beq_eq_true hb
      cases h
      refine ⟨0, ?_, fun e' => ?_⟩
      · rw [← hk]; rfl
      · unfold wset; rw [hb, hk]; rfl
    | false =>
      rw [hb] at h
      obtain ⟨i, h1, h2⟩ := ih h
      refine ⟨i + 1, by simpa using h1, fun e' => ?_⟩
      have : wset (q :: ws) k e' = q :: wset ws k e' := by
        conv => lhs; unfold wset
        rw [hb]; rfl
      rw [this, h2]; rfl
theorem jW_at {cA : Nat → ClassId} {ad : Nat → Nat} {ws : Pw} {i : Nat} {k : Nat} {e : Pe} (h : ws[i]? = some (k, e)) : (jW cA ad ws)[i]? = some (ad k, jE cA ad e) := by
  unfold jW
  rw [List.getElem?_map, h]
  rfl
theorem jW_set {cA : Nat → ClassId} {ad : Nat → Nat} {ws : Pw} {i : Nat} {k : Nat} {e : Pe} : jW cA ad (ws.set i (k, e)) = (jW cA ad ws).set i (ad k, jE cA ad e) := by
  unfold jW
  rw [List.map_set]
def allP : List Prop → Prop
  | [] => True
  | p :: ps => p ∧ allP ps
theorem ob_n : allP [] := trivial
theorem ob_c {p : Prop} {ps : List Prop} (h : p) (t : allP ps) : allP (p :: ps) := ⟨h, t⟩
theorem allP_app {a b : List Prop} (h : allP (a ++ b)) : allP a ∧ allP b := by
  induction a with
  | nil => exact ⟨trivial, h⟩
  | cons p ps ih => exact ⟨⟨h.1, (ih h.2).1⟩, (ih h.2).2⟩
/-! string constants: places 1000 .. 1005 -/
def jSL : List Nat := [6, 3, 5, 7, 5, 3]
def jSB : List (List Int32) := [[109, 101, 109, 98, 101, 114], [108, 97, 119], [99, 111, 117, 103, 104], [115, 116, 111, 112, 112, 101, 100], [98, 101, 103, 97, 110], [97, 108, 108]]
def jSI : List (Nat × String) := [(54, "member"), (64, "law"), (69, "cough"), (107, "stopped"), (109, "began"), (111, "all")]
def jN : List (String × Nat × MethodName × String) := [(RX6, 9, yX1_init, RX6), (RX6, 18, yX4_init, RX6), (RX4, 11, yX1_init, RX6), (RX6, 37, yX3_init, RX6), (RX5, 68, yX6_has, RX6), (RX1, 37, yX6_has, RX6)]
/-- what the state of a run keeps beside the world: the string constants, words on nest mates, the statics that are read -/
def jS (ad : Nat → Nat) (A : Nat → Prop) (U : State) : Prop := vk_S 6 jSL jSB (fun i => ad (1000 + i)) (fun i => ad (1010 + i)) A U U.heap ∧ (∀ i, i < 6 → vk_R RX4 (jSI.getD i (0, "")).1 (jSI.getD i (0, "")).2 (ad (1000 + i)) U) ∧ (∀ q ∈ jN, va_Nw (.methodLinkNest q.1 q.2.1 q.2.2.1 q.2.2.2) U) ∧ va_AO "SilenceFines$Sitting" U ∧ va_Z "java/lang/String" "COMPACT_STRINGS" "Z" (.int 1) A U U.heap ∧ (va_Z "jdk/internal/util/Preconditions" "SIOOBE_FORMATTER" "Ljava/util/function/BiFunction;" .null A U U.heap ∨ va_Z "jdk/internal/util/Preconditions" "SIOOBE_FORMATTER" "Ljava/util/function/BiFunction;" (.ref (ad 1016)) A U U.heap)
abbrev Cx : Type := Program × Launch × Env × Room × State × MethodId × Array Value × List Frame × Method × Code × va_G × (Nat → ClassId) × (Nat → Prop) × (State → Prop)
/-- from the frame at this state the machine comes to its end -/
def J (x : Cx) (nL : Nat) (g : (Nat → Nat) × Nat × Nat) (S : Sx) : Prop := match x with
  | (p, l, e, R, s, m, args, below, meth, c, D, cA, A, Q) =>
    ∀ (H : Heap) (locs : List Loc) (ls : Array Slot), lv_has ls nL (jL g.1 S.2.1) → va_P D vwCl (jW cA g.1 S.2.2.2) H → va_D A (jW cA g.1 S.2.2.2) → va_S A s.heap H locs → g.2.1 ≤ R.cells ∧ g.2.2 ≤ R.slots → W p l e R s m args below meth c H locs g.2.1 g.2.2 Q (F0 m S.1 ls (S.2.2.1.map (jV g.1)))
/-- what holds of the frame's own method -/
def Fx (x : Cx) (cc : ByteArray) (nL : Nat) (own : String) (nm : String) (ret : Option FieldType) (d : Nat) : Prop := match x with
  | (p, l, e, R, s, m, args, below, meth, c, D, cA, A, Q) =>
    p.tables.exec = Jvm.exec ∧ c.code = cc ∧ c.maxLocals = nL ∧ s.vm.findClass own = some m.cls ∧ (∀ w ∈ allW, w.before args s = true) ∧ va_K D vwCl (jT cA) s ∧ (∀ q : Nat, s.heap.size ≤ q → A q) ∧ d ≤ R.frames ∧ 40 * d ≤ R.locals ∧ meth.sig.returnType = ret ∧ meth.locks = false ∧ meth.name = nm
/-- one instruction's soundness, at its place -/
def Snd (x : Cx) (nL : Nat) (q : Nat × Op) : Prop := ∀ (g : (Nat → Nat) × Nat × Nat) (o : List Nat) (lv : List (Nat × Value)) (st : List Value) (ws : Pw) (o' : List Nat) (S' : Sx) (ob : List Prop), q.2 o (q.1, lv, st, ws) = some (o', S', ob) → allP ob → J x nL g S' → J x nL g (q.1, lv, st, ws)
def tdrop : List (Nat × Op) → Nat → List (Nat × Op)
  | [], _ => []
  | q :: t, k => bif Nat.beq q.1 k then q :: t else tdrop t k
def tsel (full cur : List (Nat × Op)) (k : Nat) : List (Nat × Op) := match cur with
  | [] => tdrop full k
  | q :: t => bif Nat.beq q.1 k then q :: t else tdrop full k
def ev (full : List (Nat × Op)) : Nat → List (Nat × Op) → List Nat → Sx → Sx × List Prop
  | 0, _, _, S => (S, [])
  | n + 1, cur, o, S => match tsel full cur S.1 with
    | [] => (S, [])
    | q :: t => match q.2 o S with
      | none => (S, [])
      | some r => ((ev full n t r.1 r.2.1).1, r.2.2 ++ (ev full n t r.1 r.2.1).2)
theorem tdrop_at {full : List (Nat × Op)} {k : Nat} {q : Nat × Op} {t : List (Nat × Op)} (h : tdrop full k = q :: t) : q.1 = k ∧ ∀ z ∈ q :: t, z ∈ full := by
  induction full with
  | nil => cases h
  | cons a full ih =>
    unfold tdrop at h
    cases hb : Nat.beq a.1 k with
    | true =>
      rw [hb] at h
      cases h
      exact ⟨Nat.eq_of_beq_eq_true hb, fun z hz => hz⟩
    | false =>
      rw [hb] at h
      obtain ⟨h1, h2⟩ := ih h
      exact ⟨h1, fun z hz => List.mem_cons_of_mem _ (h2 z hz)⟩
theorem tsel_at {full cur : List (Nat × Op)} (hc : ∀ z ∈ cur, z ∈ full) {k : Nat} {q : Nat × Op} {t : List (Nat × Op)} (h : tsel full cur k = q :: t) : q.1 = k ∧ ∀ z ∈ q :: t, z ∈ full := by
  cases cur with
  | nil => exact tdrop_at h
  | cons a cur =>
    cases hb : Nat.beq a.1 k with
    | true =>
      simp only [tsel, hb, cond_true] at h
      cases h
      exact ⟨Nat.eq_of_beq_eq_true hb, hc⟩
    | false =>
      simp only [tsel, hb, cond_false] at h
      exact tdrop_at h
theorem ev_sound {x : Cx} {nL : Nat} {full : List (Nat × Op)} (hT : ∀ q ∈ full, Snd x nL q) {g : (Nat → Nat) × Nat × Nat} : ∀ (n : Nat) (cur : List (Nat × Op)) (o : List Nat) (S : Sx), (∀ z ∈ cur, z ∈ full) → allP (ev full n cur o S).2 → J x nL g (ev full n cur o S).1 → J x nL g S := by
  intro n
  induction n with
  | zero => intro cur o S _ _ h; exact h
  | succ n ih =>
    intro cur o S hc hob h
    unfold ev at hob h
    cases hs : tsel full cur S.1 with
    | nil => rw [hs] at h; exact h
    | cons q t =>
      rw [hs] at h hob
      obtain ⟨h1, h2⟩ := tsel_at hc hs
      cases hq : q.2 o S with
      | none => simp only [hq] at h; exact h
      | some r =>
        simp only [hq] at h hob
        obtain ⟨pc, lv, st, ws⟩ := S
        obtain ⟨qp, qo⟩ := q
        have e1 : qp = pc := h1
        subst e1
        obtain ⟨o', S', ob⟩ := r
        obtain ⟨b1, b2⟩ := allP_app hob
        exact hT (qp, qo) (h2 _ List.mem_cons_self) g o lv st ws o' S' ob hq b1 (ih t o' S' (fun z hz => h2 z (List.mem_cons_of_mem _ hz)) b2 h)
theorem J.run {x : Cx} {nL : Nat} {full : List (Nat × Op)} (hT : ∀ q ∈ full, Snd x nL q) {g : (Nat → Nat) × Nat × Nat} {S : Sx} (n : Nat) (o : List Nat) {S' : Sx} {ob : List Prop} (h : ev full n full o S = (S', ob)) (hob : allP ob) (k : J x nL g S') : J x nL g S :=
  ev_sound hT n full o S (fun _ h => h) (by rw [h]; exact hob) (by rw [h]; exact k)
