def allW : List Cond := lw_tbl.filter goodWord
theorem aw0 {w : Cond} (h : w ∈ lw_tbl) (hg : goodWord w = true) : w ∈ allW := List.mem_filter.mpr ⟨h, hg⟩
theorem aw1 {w : Cond} (i : Nat) (h : tables_1_1[i]? = some w) (hg : goodWord w = true) : w ∈ allW := aw0 (List.mem_append_right _ (List.mem_append_left _ (List.mem_of_getElem? h))) hg
theorem aw2 {w : Cond} (i : Nat) (h : tables_1_2[i]? = some w) (hg : goodWord w = true) : w ∈ allW := aw0 (List.mem_append_right _ (List.mem_append_right _ ((List.mem_append_left _ (List.mem_of_getElem? h))))) hg
theorem aw3 {w : Cond} (i : Nat) (h : tables_1_3[i]? = some w) (hg : goodWord w = true) : w ∈ allW := aw0 (List.mem_append_right _ (List.mem_append_right _ (List.mem_append_right _ ((List.mem_append_left _ (List.mem_of_getElem? h)))))) hg
theorem aw4 {w : Cond} (i : Nat) (h : tables_1_4[i]? = some w) (hg : goodWord w = true) : w ∈ allW := aw0 (List.mem_append_right _ (List.mem_append_right _ (List.mem_append_right _ (List.mem_append_right _ ((List.mem_append_left _ (List.mem_of_getElem? h))))))) hg
theorem aw5 {w : Cond} (i : Nat) (h : tables_1_5[i]? = some w) (hg : goodWord w = true) : w ∈ allW := aw0 (List.mem_append_right _ (List.mem_append_right _ (List.mem_append_right _ (List.mem_append_right _ (List.mem_append_right _ (List.mem_of_getElem? h)))))) hg
theorem awp {q : MethodName × Nat} (h : q ∈ lw_privs) : Cond.selects q.1.cls q.1 q.1 ∈ allW := aw0 (List.mem_append_left _ (List.mem_map.mpr ⟨q, h, rfl⟩)) rfl
theorem awp1 {q : MethodName × Nat} (i : Nat) (h : lw_privs_1[i]? = some q) : Cond.selects q.1.cls q.1 q.1 ∈ allW := awp (List.mem_append_left _ (List.mem_of_getElem? h))
theorem awp2 {q : MethodName × Nat} (i : Nat) (h : lw_privs_2[i]? = some q) : Cond.selects q.1.cls q.1 q.1 ∈ allW := awp (List.mem_append_right _ (List.mem_append_left _ (List.mem_of_getElem? h)))
theorem awp3 {q : MethodName × Nat} (i : Nat) (h : lw_privs_3[i]? = some q) : Cond.selects q.1.cls q.1 q.1 ∈ allW := awp (List.mem_append_right _ (List.mem_append_right _ (List.mem_append_left _ (List.mem_of_getElem? h))))
theorem awp4 {q : MethodName × Nat} (i : Nat) (h : lw_privs_4[i]? = some q) : Cond.selects q.1.cls q.1 q.1 ∈ allW := awp (List.mem_append_right _ (List.mem_append_right _ (List.mem_append_right _ (List.mem_of_getElem? h))))
theorem allW_good : ∀ w ∈ allW, goodWord w = true := fun w h => (List.mem_filter.mp h).2
theorem allW_in : ∀ w ∈ allW, w ∈ lw_tbl := fun w h => (List.mem_filter.mp h).1
theorem allW_goodIn {c : Cond} {big : List Cond} (h : ∀ w ∈ allW, w ∈ big) (hc : c ∈ allW) : GoodIn big (c :: allW) := fun w hw => by
  rcases List.mem_cons.mp hw with rfl | hw
  · exact ⟨h _ hc, good_of_word (allW_good _ hc)⟩
  · exact ⟨h _ hw, good_of_word (allW_good _ hw)⟩
theorem inX0 : ∀ w ∈ u_ws RX0 TX0 6, w ∈ allW := by
  intro w hw
  obtain ⟨k, hk, rfl⟩ := List.mem_map.mp hw
  have hk := List.mem_range.mp hk
  match k, hk with
  | 0, _ => exact aw1 225 (by decide +kernel) rfl
  | 1, _ => exact aw1 227 (by decide +kernel) rfl
  | 2, _ => exact aw1 229 (by decide +kernel) rfl
  | 3, _ => exact aw1 231 (by decide +kernel) rfl
  | 4, _ => exact aw1 233 (by decide +kernel) rfl
  | 5, _ => exact aw1 235 (by decide +kernel) rfl
  | k + 6, hk => exact absurd hk (by omega)
theorem inX1 : ∀ w ∈ u_ws RX1 TX1 8, w ∈ allW := by
  intro w hw
  obtain ⟨k, hk, rfl⟩ := List.mem_map.mp hw
  have hk := List.mem_range.mp hk
  match k, hk with
  | 0, _ => exact aw1 56 (by decide +kernel) rfl
  | 1, _ => exact aw1 58 (by decide +kernel) rfl
  | 2, _ => exact aw1 60 (by decide +kernel) rfl
  | 3, _ => exact aw1 62 (by decide +kernel) rfl
  | 4, _ => exact aw1 64 (by decide +kernel) rfl
  | 5, _ => exact aw1 66 (by decide +kernel) rfl
  | 6, _ => exact aw1 68 (by decide +kernel) rfl
  | 7, _ => exact aw1 70 (by decide +kernel) rfl
  | k + 8, hk => exact absurd hk (by omega)
theorem inX2 : ∀ w ∈ u_ws RX2 TX2 7, w ∈ allW := by
  intro w hw
  obtain ⟨k, hk, rfl⟩ := List.mem_map.mp hw
  have hk := List.mem_range.mp hk
  match k, hk with
  | 0, _ => exact aw2 12 (by decide +kernel) rfl
  | 1, _ => exact aw2 14 (by decide +kernel) rfl
  | 2, _ => exact aw2 16 (by decide +kernel) rfl
  | 3, _ => exact aw2 18 (by decide +kernel) rfl
  | 4, _ => exact aw2 20 (by decide +kernel) rfl
  | 5, _ => exact aw2 22 (by decide +kernel) rfl
  | 6, _ => exact aw2 24 (by decide +kernel) rfl
  | k + 7, hk => exact absurd hk (by omega)
theorem inX3 : ∀ w ∈ u_ws RX3 TX3 6, w ∈ allW := by
  intro w hw
  obtain ⟨k, hk, rfl⟩ := List.mem_map.mp hw
  have hk := List.mem_range.mp hk
  match k, hk with
  | 0, _ => exact aw1 197 (by decide +kernel) rfl
  | 1, _ => exact aw1 199 (by decide +kernel) rfl
  | 2, _ => exact aw1 201 (by decide +kernel) rfl
  | 3, _ => exact aw1 203 (by decide +kernel) rfl
  | 4, _ => exact aw1 205 (by decide +kernel) rfl
  | 5, _ => exact aw1 207 (by decide +kernel) rfl
  | k + 6, hk => exact absurd hk (by omega)
theorem inX4 : ∀ w ∈ u_ws RX4 TX4 8, w ∈ allW := by
  intro w hw
  obtain ⟨k, hk, rfl⟩ := List.mem_map.mp hw
  have hk := List.mem_range.mp hk
  match k, hk with
  | 0, _ => exact aw1 93 (by decide +kernel) rfl
  | 1, _ => exact aw1 95 (by decide +kernel) rfl
  | 2, _ => exact aw1 97 (by decide +kernel) rfl
  | 3, _ => exact aw1 99 (by decide +kernel) rfl
  | 4, _ => exact aw1 101 (by decide +kernel) rfl
  | 5, _ => exact aw1 103 (by decide +kernel) rfl
  | 6, _ => exact aw1 105 (by decide +kernel) rfl
  | 7, _ => exact aw1 107 (by decide +kernel) rfl
  | k + 8, hk => exact absurd hk (by omega)
theorem inX5 : ∀ w ∈ u_ws RX5 TX5 15, w ∈ allW := by
  intro w hw
  obtain ⟨k, hk, rfl⟩ := List.mem_map.mp hw
  have hk := List.mem_range.mp hk
  match k, hk with
  | 0, _ => exact aw1 148 (by decide +kernel) rfl
  | 1, _ => exact aw1 150 (by decide +kernel) rfl
  | 2, _ => exact aw1 152 (by decide +kernel) rfl
  | 3, _ => exact aw1 154 (by decide +kernel) rfl
  | 4, _ => exact aw1 156 (by decide +kernel) rfl
  | 5, _ => exact aw1 158 (by decide +kernel) rfl
  | 6, _ => exact aw1 160 (by decide +kernel) rfl
  | 7, _ => exact aw1 162 (by decide +kernel) rfl
  | 8, _ => exact aw1 164 (by decide +kernel) rfl
  | 9, _ => exact aw1 166 (by decide +kernel) rfl
  | 10, _ => exact aw1 168 (by decide +kernel) rfl
  | 11, _ => exact aw1 170 (by decide +kernel) rfl
  | 12, _ => exact aw1 172 (by decide +kernel) rfl
  | 13, _ => exact aw1 174 (by decide +kernel) rfl
  | 14, _ => exact aw1 176 (by decide +kernel) rfl
  | k + 15, hk => exact absurd hk (by omega)
theorem inX6 : ∀ w ∈ u_ws RX6 TX6 9, w ∈ allW := by
  intro w hw
  obtain ⟨k, hk, rfl⟩ := List.mem_map.mp hw
  have hk := List.mem_range.mp hk
  match k, hk with
  | 0, _ => exact aw2 36 (by decide +kernel) rfl
  | 1, _ => exact aw2 38 (by decide +kernel) rfl
  | 2, _ => exact aw2 40 (by decide +kernel) rfl
  | 3, _ => exact aw2 42 (by decide +kernel) rfl
  | 4, _ => exact aw2 44 (by decide +kernel) rfl
  | 5, _ => exact aw2 46 (by decide +kernel) rfl
  | 6, _ => exact aw2 48 (by decide +kernel) rfl
  | 7, _ => exact aw2 50 (by decide +kernel) rfl
  | 8, _ => exact aw2 52 (by decide +kernel) rfl
  | k + 9, hk => exact absurd hk (by omega)
theorem inX7 : ∀ w ∈ u_ws RX7 TX7 27, w ∈ allW := by
  intro w hw
  obtain ⟨k, hk, rfl⟩ := List.mem_map.mp hw
  have hk := List.mem_range.mp hk
  match k, hk with
  | 0, _ => exact aw4 59 (by decide +kernel) rfl
  | 1, _ => exact aw4 61 (by decide +kernel) rfl
  | 2, _ => exact aw4 63 (by decide +kernel) rfl
  | 3, _ => exact aw4 65 (by decide +kernel) rfl
  | 4, _ => exact aw4 67 (by decide +kernel) rfl
  | 5, _ => exact aw4 69 (by decide +kernel) rfl
  | 6, _ => exact aw4 71 (by decide +kernel) rfl
  | 7, _ => exact aw4 73 (by decide +kernel) rfl
  | 8, _ => exact aw4 75 (by decide +kernel) rfl
  | 9, _ => exact aw4 77 (by decide +kernel) rfl
  | 10, _ => exact aw4 79 (by decide +kernel) rfl
  | 11, _ => exact aw4 81 (by decide +kernel) rfl
  | 12, _ => exact aw4 83 (by decide +kernel) rfl
  | 13, _ => exact aw4 85 (by decide +kernel) rfl
  | 14, _ => exact aw4 87 (by decide +kernel) rfl
  | 15, _ => exact aw4 89 (by decide +kernel) rfl
  | 16, _ => exact aw4 91 (by decide +kernel) rfl
  | 17, _ => exact aw4 93 (by decide +kernel) rfl
  | 18, _ => exact aw4 95 (by decide +kernel) rfl
  | 19, _ => exact aw4 97 (by decide +kernel) rfl
  | 20, _ => exact aw4 99 (by decide +kernel) rfl
  | 21, _ => exact aw4 101 (by decide +kernel) rfl
  | 22, _ => exact aw4 103 (by decide +kernel) rfl
  | 23, _ => exact aw4 105 (by decide +kernel) rfl
  | 24, _ => exact aw4 107 (by decide +kernel) rfl
  | 25, _ => exact aw4 109 (by decide +kernel) rfl
  | 26, _ => exact aw4 111 (by decide +kernel) rfl
  | k + 27, hk => exact absurd hk (by omega)
