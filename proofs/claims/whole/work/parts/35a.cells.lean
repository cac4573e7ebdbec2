/-! cells by names -/
def sO (p : Nat) (b : Nat → Int32) (sd : Int32) : Pe := .inl (5, [.ref 10, .ref (p + 1), .ref (p + 2), .ref (p + 3), .ref (p + 4), .int (b 3), .int (b 4), .int (b 5), .int (b 6), .int (b 0), .int (b 1), .int (b 2), .int sd, .int (b 7), .int (b 8)])
def s4 (o : Nat) (b : Nat → Int32) : Pe := .inr (.inl (0, [b o, b (o + 1), b (o + 2), b (o + 3)]))
def hO (h : Nat → Int32) : Pe := .inl (1, [.ref 11, .ref 12, .ref 13, .int (h 0), .int (h 14), .int (h 15), .int (h 16), .int (h 1)])
theorem gi4m {b : Nat → Int32} (o : Nat) {m : Nat} (hm : m < 4) : gi [b o, b (o + 1), b (o + 2), b (o + 3)] m = b (o + m) := by
  match m, hm with
  | 0, _ => rfl
  | 1, _ => rfl
  | 2, _ => rfl
  | 3, _ => rfl
theorem Ctr.imp {k : Mk} {d : Nat} {av : List Value} {ws : Pw} {P P' : Option Value → Pw → Prop} (hC : Ctr k d av ws P) (h : ∀ r u, P r u → P' r u) : Ctr k d av ws P' := by
  intro l D cA ad sz p e ha hc hk s m args below hf happ hP hK
  obtain ⟨n, o, h1, h2, h3, ⟨hq, hL⟩⟩ := hC l D cA ad sz p e ha hc hk s m args below hf happ hP hK
  refine ⟨n, o, h1, h2, h3, ⟨?_, hL⟩⟩
  obtain ⟨⟨r, ws', e1, e2, e3, e4⟩, e5⟩ := hq
  exact ⟨⟨r, ws', e1, e2, h r ws' e3, e4⟩, e5⟩
