/-! a call whose world behind it is read place by place -/
def smT : List (Nat × Nat) → Nat → Nat
  | [], k => k
  | q :: l, k => bif Nat.beq q.1 k then q.2 else smT l k
def lookZ : List Nat → Pw → Nat → Option Pe
  | k :: ks, e :: es, n => bif Nat.beq k n then some e.2 else lookZ ks es n
  | [], _, _ => none
  | _ :: _, [], _ => none
def pickZ (σ : Nat → Nat) (o : Option Pe) (e : Pe) : Pe := match o with
  | some e' => renE σ e'
  | none => e
def updZ (σ : Nat → Nat) (ks : List Nat) (ws : Pw) : Pw → Pw
  | [] => []
  | q :: W => (q.1, pickZ σ (lookZ ks ws q.1) q.2) :: updZ σ ks ws W
theorem lookZ_no {ks : List Nat} {n : Nat} (h : n ∉ ks) : ∀ ws : Pw, lookZ ks ws n = none := by
  induction ks with
  | nil => intro ws; rfl
  | cons k ks ih =>
    intro ws
    cases ws with
    | nil => rfl
    | cons q ws =>
      show (bif Nat.beq k n then some q.2 else lookZ ks ws n) = none
      have hk : Nat.beq k n = false := by
        cases hb : Nat.beq k n with
        | false => rfl
        | true => exact absurd (Nat.eq_of_beq_eq_true hb ▸ List.mem_cons_self) h
      rw [hk]
      exact ih (fun z => h (List.mem_cons_of_mem _ z)) ws
theorem updZ_skip {σ : Nat → Nat} {k : Nat} {q : Nat × Pe} {ks : List Nat} {ws : Pw} : ∀ {W : Pw}, (∀ r ∈ W, r.1 ≠ k) → updZ σ (k :: ks) (q :: ws) W = updZ σ ks ws W := by
  intro W
  induction W with
  | nil => intro _; rfl
  | cons r W ih =>
    intro h
    have hr : Nat.beq k r.1 = false := by
      cases hb : Nat.beq k r.1 with
      | false => rfl
      | true => exact absurd (Nat.eq_of_beq_eq_true hb).symm (h r List.mem_cons_self)
    show (r.1, pickZ σ (bif Nat.beq k r.1 then some q.2 else lookZ ks ws r.1) r.2) :: updZ σ (k :: ks) (q :: ws) W = (r.1, pickZ σ (lookZ ks ws r.1) r.2) :: updZ σ ks ws W
    rw [hr, ih (fun z hz => h z (List.mem_cons_of_mem _ hz))]
    rfl
theorem updZ_wset {σ : Nat → Nat} {k : Nat} {q : Nat × Pe} {ks : List Nat} {ws : Pw} (hk : k ∉ ks) : ∀ {W : Pw}, (W.map Prod.fst).Nodup → updZ σ ks ws (wset W k (renE σ q.2)) = updZ σ (k :: ks) (q :: ws) W := by
  intro W
  induction W with
  | nil => intro _; rfl
  | cons r W ih =>
    intro hn
    rw [List.map_cons, List.nodup_cons] at hn
    unfold wset
    cases hb : Nat.beq r.1 k with
    | true =>
      have e : r.1 = k := Nat.eq_of_beq_eq_true hb
      have hW : ∀ z ∈ W, z.1 ≠ k := fun z hz e9 => hn.1 (by rw [e, ← e9]; exact List.mem_map.mpr ⟨z, hz, rfl⟩)
      show (r.1, pickZ σ (lookZ ks ws r.1) (renE σ q.2)) :: updZ σ ks ws W = (r.1, pickZ σ (bif Nat.beq k r.1 then some q.2 else lookZ ks ws r.1) r.2) :: updZ σ (k :: ks) (q :: ws) W
      rw [updZ_skip hW, e, lookZ_no hk, show Nat.beq k k = true from Nat.beq_refl k]
      rfl
    | false =>
      have hb2 : Nat.beq k r.1 = false := by
        cases hc : Nat.beq k r.1 with
        | false => rfl
        | true => rw [Nat.eq_of_beq_eq_true hc, Nat.beq_refl] at hb; cases hb
      show (r.1, pickZ σ (lookZ ks ws r.1) r.2) :: updZ σ ks ws (wset W k (renE σ q.2)) = (r.1, pickZ σ (bif Nat.beq k r.1 then some q.2 else lookZ ks ws r.1) r.2) :: updZ σ (k :: ks) (q :: ws) W
      rw [hb2, ih hn.2]
      rfl
theorem updZ_nil {σ : Nat → Nat} : ∀ W : Pw, updZ σ [] [] W = W := by
  intro W
  induction W with
  | nil => rfl
  | cons r W ih =>
    show (r.1, r.2) :: updZ σ [] [] W = r :: W
    rw [ih]
theorem updZ_eq {σ : Nat → Nat} : ∀ (ws W : Pw), (W.map Prod.fst).Nodup → ((ws.map Prod.fst).map σ).Nodup → updM σ W ws = updZ σ ((ws.map Prod.fst).map σ) ws W := by
  intro ws
  induction ws with
  | nil =>
    intro W _ _
    exact (updZ_nil W).symm
  | cons q ws ih =>
    intro W hW hn
    rw [List.map_cons, List.map_cons, List.nodup_cons] at hn
    show updM σ (wset W (σ q.1) (renE σ q.2)) ws = _
    rw [ih _ (by rw [wset_keys]; exact hW) hn.2]
    exact updZ_wset hn.1 hW
theorem J.callVK {x : Cx} {cc : ByteArray} {nL : Nat} {own nm : String} {ret : Option FieldType} {d : Nat} (F : Fx x cc nL own nm ret d) {ad : Nat → Nat} {cells slots : Nat} (hJ : jSx x ad) {pc idx n : Nat} {k : Mk} (hL : Lk own idx k n) (hin9 : Cond.instanceMethod k.1 ∈ allW) (hsel9 : Cond.selects k.1.cls k.1 k.1 ∈ allW) (hd : decode cc pc = .ok (.invokevirtual idx, 3)) {d' k0 ci N : Nat} {T : u_T} {fs : List Value} {av : List Value} {ws : Pw} {Post : Option Value → Pw → Prop} (hC : Ctr k d' (.ref k0 :: av) ws Post) (σ : Nat → Nat) (hdd : d' + 1 ≤ d) {lv : List (Nat × Value)} {st : List Value} {W : Pw} (rest : List Value) (ks : List Nat) (hks : (ws.map Prod.fst).map σ = ks) (hst : st = (av.map (ren σ)).reverse ++ .ref (σ k0) :: rest) (hn : av.length = n) (hcs : Nat.ble (csum rest) 8 = true)
    (hrc : wget ws k0 = some (.inl (ci, fs))) (hci : vwCl[ci]? = some (k.1.cls, T, N))
    (hσ : ∀ i, i < 17 → σ (1000 + i) = 1000 + i) (hsub : ws.map (fun q => wget W (σ q.1)) = ws.map (fun q => some (renE σ q.2))) (hnd : ks.Nodup)
    (kk : ∀ (r : Option Value) (ws' : Pw), ws'.map Prod.fst = ws.map Prod.fst → Post r ws' → J x nL (ad, cells, slots) (pc + 3, lv, (r.map (ren σ)).toList ++ rest, updZ σ ks ws' W)) : J x nL (ad, cells, slots) (pc, lv, st, W) := by
  subst hks
  obtain ⟨p, l, e, R, s, m, args, below, meth, c, D, cA, A, Q⟩ := x
  intro H locs ls hl hP hD hS hG
  have hwn : (W.map Prod.fst).Nodup := by
    have := (va_D_keys.mp hD).1
    rw [jW_keys] at this
    refine List.nodup_iff_pairwise_ne.mpr (List.pairwise_iff_getElem.mpr fun i j hi hj hij e1 => ?_)
    refine (List.pairwise_iff_getElem.mp (List.nodup_iff_pairwise_ne.mp this)) i j (by rw [List.length_map]; exact hi) (by rw [List.length_map]; exact hj) hij ?_
    simp only [List.getElem_map] at e1 ⊢
    rw [e1]
  exact J.callV F hJ hL hin9 hsel9 hd hC σ hdd rest hst hn hcs hrc hci hσ hsub hnd (fun r ws' hk hp => by
    rw [updZ_eq ws' W hwn (by rw [hk]; exact hnd), hk]
    exact kk r ws' hk hp) H locs ls hl hP hD hS hG
