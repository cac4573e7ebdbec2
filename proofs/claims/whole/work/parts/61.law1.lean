set_option maxRecDepth 20000 in
set_option maxHeartbeats 4000000 in
theorem lw_0 {x : Cx} {nm : String} {d : Nat} (F : Fx x cL_law 4 RL nm (some .boolean) d) {ad : Nat → Nat} {cells slots : Nat} (hJ : jSx x ad) {b L : Nat} {xs : Nat → Int32} (hS : Sc x b L xs) (had : ad 900 = b) {j : Nat} (hj : 4 * j + 4 ≤ L) (hL : L ≤ 2048) {a1 : Int32} {vv : Int64} (ha1 : xs (4 * j + 1) = a1) (hvv : ((Int32.toInt64 (xs (4 * j + 2))) <<< (Int32.toInt64 32 &&& 63)) ||| ((Int32.toInt64 (xs (4 * j + 3))) &&& 4294967295) = vv) {d1 d2 : Nat} {ws1 ws2 : Pw} {P1 P2 : Option Value → Pw → Prop} (C1 : Ctr mk_X6_feed d1 [.ref 0, .int a1, .long vv] ws1 P1) (C2 : Ctr mk_X7_feed d2 [.ref 500, .int a1, .long vv] ws2 P2) (hd1 : d1 + 1 ≤ d) (hd2 : d2 + 1 ≤ d) {W : Pw} {fs1 fs2 : List Value} (hr1 : wget ws1 0 = some (.inl (6, fs1))) (hr2 : wget ws2 500 = some (.inl (7, fs2))) (ks1 ks2 : List Nat) (hk1 : ws1.map Prod.fst = ks1) (hk2 : ws2.map Prod.fst = ks2) (hn1 : ks1.Nodup) (hn2 : ks2.Nodup) (hdis : ks2.all (fun k => nin k ks1) = true) (h1 : ws1.map (fun q => wget W q.1) = ws1.map (fun q => some q.2)) (h2 : ws2.map (fun q => wget W q.1) = ws2.map (fun q => some q.2)) (hi1 : ∀ (r : Option Value) (u : Pw), P1 r u → ∃ v : Int32, r = some (.int v))
    (kk : ∀ (v : Int32) (u1 : Pw) (r2 : Option Value) (u2 : Pw), u1.map Prod.fst = ks1 → u2.map Prod.fst = ks2 → P1 (some (.int v)) u1 → P2 r2 u2 → r2 = some (.int v) ∧ J x 4 (ad, cells, slots) (773, [(0, .ref 900), (1, .ref 0), (2, .ref 500), (3, .int (nI (4 * j)))], [], putW ks2 u2 (putW ks1 u1 W))) : J x 4 (ad, cells, slots) (148, [(0, .ref 900), (1, .ref 0), (2, .ref 500), (3, .int (nI (4 * j)))], [], W) := by
  subst ha1 hvv
  refine J.run (sn_L_0 F) 5 [] (S' := (153, [(0, .ref 900), (1, .ref 0), (2, .ref 500), (3, .int (nI (4 * j)))], [.int ((nI (4 * j)) + 1), .ref 900, .ref 0], W)) (ob := []) rfl ob_n ?_
  refine J.sld F hS had (by decide +kernel) (4 * j + 1) (sc_1 hj hL) ?_
  refine J.run (sn_L_0 F) 4 [] (S' := (158, [(0, .ref 900), (1, .ref 0), (2, .ref 500), (3, .int (nI (4 * j)))], [.int ((nI (4 * j)) + 2), .ref 900, .int (xs (4 * j + 1)), .ref 0], W)) (ob := []) rfl ob_n ?_
  refine J.sld F hS had (by decide +kernel) (4 * j + 2) (sc_2 hj hL) ?_
  refine J.run (sn_L_0 F) 7 [] (S' := (167, [(0, .ref 900), (1, .ref 0), (2, .ref 500), (3, .int (nI (4 * j)))], [.int ((nI (4 * j)) + 3), .ref 900, .long ((Int32.toInt64 (xs (4 * j + 2))) <<< (Int32.toInt64 32 &&& 63)), .int (xs (4 * j + 1)), .ref 0], W)) (ob := []) rfl ob_n ?_
  refine J.sld F hS had (by decide +kernel) (4 * j + 3) (sc_3 hj hL) ?_
  refine J.run (sn_L_0 F) 4 [] (S' := (174, [(0, .ref 900), (1, .ref 0), (2, .ref 500), (3, .int (nI (4 * j)))], [.long (((Int32.toInt64 (xs (4 * j + 2))) <<< (Int32.toInt64 32 &&& 63)) ||| ((Int32.toInt64 (xs (4 * j + 3))) &&& 4294967295)), .int (xs (4 * j + 1)), .ref 0], W)) (ob := []) rfl ob_n ?_
  refine J.callW F hJ lk_L_15 im_X6_feed se_X6_feed (by decide +kernel) C1 hd1 [] ks1 hk1 rfl rfl rfl hr1 rfl h1 hn1 (fun r1 u1 hu1 hp1 => ?_)
  obtain ⟨v1, rfl⟩ := hi1 r1 u1 hp1
  show J x 4 (ad, cells, slots) (177, [(0, .ref 900), (1, .ref 0), (2, .ref 500), (3, .int (nI (4 * j)))], [.int v1], putW ks1 u1 W)
  have h3 : ws2.map (fun q => wget (putW ks1 u1 W) q.1) = ws2.map (fun q => some q.2) := by
    rw [← h2]
    refine List.map_congr_left fun q hq => wget_putW ?_ u1 W
    exact List.all_eq_true.mp hdis q.1 (by rw [← hk2]; exact List.mem_map.mpr ⟨q, hq, rfl⟩)
  refine J.run (sn_L_0 F) 5 [] (S' := (182, [(0, .ref 900), (1, .ref 0), (2, .ref 500), (3, .int (nI (4 * j)))], [.int ((nI (4 * j)) + 1), .ref 900, .ref 500, .int v1], putW ks1 u1 W)) (ob := []) rfl ob_n ?_
  refine J.sld F hS had (by decide +kernel) (4 * j + 1) (sc_1 hj hL) ?_
  refine J.run (sn_L_0 F) 4 [] (S' := (187, [(0, .ref 900), (1, .ref 0), (2, .ref 500), (3, .int (nI (4 * j)))], [.int ((nI (4 * j)) + 2), .ref 900, .int (xs (4 * j + 1)), .ref 500, .int v1], putW ks1 u1 W)) (ob := []) rfl ob_n ?_
  refine J.sld F hS had (by decide +kernel) (4 * j + 2) (sc_2 hj hL) ?_
  refine J.run (sn_L_0 F) 7 [] (S' := (196, [(0, .ref 900), (1, .ref 0), (2, .ref 500), (3, .int (nI (4 * j)))], [.int ((nI (4 * j)) + 3), .ref 900, .long ((Int32.toInt64 (xs (4 * j + 2))) <<< (Int32.toInt64 32 &&& 63)), .int (xs (4 * j + 1)), .ref 500, .int v1], putW ks1 u1 W)) (ob := []) rfl ob_n ?_
  refine J.sld F hS had (by decide +kernel) (4 * j + 3) (sc_3 hj hL) ?_
  refine J.run (sn_L_0 F) 4 [] (S' := (203, [(0, .ref 900), (1, .ref 0), (2, .ref 500), (3, .int (nI (4 * j)))], [.long (((Int32.toInt64 (xs (4 * j + 2))) <<< (Int32.toInt64 32 &&& 63)) ||| ((Int32.toInt64 (xs (4 * j + 3))) &&& 4294967295)), .int (xs (4 * j + 1)), .ref 500, .int v1], putW ks1 u1 W)) (ob := []) rfl ob_n ?_
  refine J.callW F hJ lk_L_19 im_X7_feed se_X7_feed (by decide +kernel) C2 hd2 [.int v1] ks2 hk2 rfl rfl rfl hr2 rfl h3 hn2 (fun r2 u2 hu2 hp2 => ?_)
  obtain ⟨rfl, hfin⟩ := kk v1 u1 r2 u2 hu1 hu2 hp1 hp2
  show J x 4 (ad, cells, slots) (206, [(0, .ref 900), (1, .ref 0), (2, .ref 500), (3, .int (nI (4 * j)))], [.int v1, .int v1], putW ks2 u2 (putW ks1 u1 W))
  refine J.run (sn_L_0 F) 1 [1] (S' := (773, [(0, .ref 900), (1, .ref 0), (2, .ref 500), (3, .int (nI (4 * j)))], [], putW ks2 u2 (putW ks1 u1 W))) (ob := [v1 = v1]) rfl (ob_c rfl ob_n) ?_
  exact hfin
set_option maxRecDepth 20000 in
set_option maxHeartbeats 4000000 in
theorem lw_1 {x : Cx} {nm : String} {d : Nat} (F : Fx x cL_law 4 RL nm (some .boolean) d) {ad : Nat → Nat} {cells slots : Nat} (hJ : jSx x ad) {b L : Nat} {xs : Nat → Int32} (hS : Sc x b L xs) (had : ad 900 = b) {j : Nat} (hj : 4 * j + 4 ≤ L) (hL : L ≤ 2048) {d1 d2 : Nat} {ws1 ws2 : Pw} {P1 P2 : Option Value → Pw → Prop} (C1 : Ctr mk_X6_chamber d1 [.ref 0] ws1 P1) (C2 : Ctr mk_X7_chamber d2 [.ref 500] ws2 P2) (hd1 : d1 + 1 ≤ d) (hd2 : d2 + 1 ≤ d) {W : Pw} {fs1 fs2 : List Value} (hr1 : wget ws1 0 = some (.inl (6, fs1))) (hr2 : wget ws2 500 = some (.inl (7, fs2))) (ks1 ks2 : List Nat) (hk1 : ws1.map Prod.fst = ks1) (hk2 : ws2.map Prod.fst = ks2) (hn1 : ks1.Nodup) (hn2 : ks2.Nodup) (hdis : ks2.all (fun k => nin k ks1) = true) (h1 : ws1.map (fun q => wget W q.1) = ws1.map (fun q => some q.2)) (h2 : ws2.map (fun q => wget W q.1) = ws2.map (fun q => some q.2)) (hi1 : ∀ (r : Option Value) (u : Pw), P1 r u → ∃ v : Int32, r = some (.int v))
    (kk : ∀ (v : Int32) (u1 : Pw) (r2 : Option Value) (u2 : Pw), u1.map Prod.fst = ks1 → u2.map Prod.fst = ks2 → P1 (some (.int v)) u1 → P2 r2 u2 → r2 = some (.int v) ∧ J x 4 (ad, cells, slots) (773, [(0, .ref 900), (1, .ref 0), (2, .ref 500), (3, .int (nI (4 * j)))], [], putW ks2 u2 (putW ks1 u1 W))) : J x 4 (ad, cells, slots) (211, [(0, .ref 900), (1, .ref 0), (2, .ref 500), (3, .int (nI (4 * j)))], [], W) := by
  refine J.run (sn_L_1 F) 1 [] (S' := (212, [(0, .ref 900), (1, .ref 0), (2, .ref 500), (3, .int (nI (4 * j)))], [.ref 0], W)) (ob := []) rfl ob_n ?_
  refine J.callW F hJ lk_L_20 im_X6_chamber se_X6_chamber (by decide +kernel) C1 hd1 [] ks1 hk1 rfl rfl rfl hr1 rfl h1 hn1 (fun r1 u1 hu1 hp1 => ?_)
  obtain ⟨v1, rfl⟩ := hi1 r1 u1 hp1
  show J x 4 (ad, cells, slots) (215, [(0, .ref 900), (1, .ref 0), (2, .ref 500), (3, .int (nI (4 * j)))], [.int v1], putW ks1 u1 W)
  have h3 : ws2.map (fun q => wget (putW ks1 u1 W) q.1) = ws2.map (fun q => some q.2) := by
    rw [← h2]
    refine List.map_congr_left fun q hq => wget_putW ?_ u1 W
    exact List.all_eq_true.mp hdis q.1 (by rw [← hk2]; exact List.mem_map.mpr ⟨q, hq, rfl⟩)
  refine J.run (sn_L_1 F) 1 [] (S' := (216, [(0, .ref 900), (1, .ref 0), (2, .ref 500), (3, .int (nI (4 * j)))], [.ref 500, .int v1], putW ks1 u1 W)) (ob := []) rfl ob_n ?_
  refine J.callW F hJ lk_L_24 im_X7_chamber se_X7_chamber (by decide +kernel) C2 hd2 [.int v1] ks2 hk2 rfl rfl rfl hr2 rfl h3 hn2 (fun r2 u2 hu2 hp2 => ?_)
  obtain ⟨rfl, hfin⟩ := kk v1 u1 r2 u2 hu1 hu2 hp1 hp2
  show J x 4 (ad, cells, slots) (219, [(0, .ref 900), (1, .ref 0), (2, .ref 500), (3, .int (nI (4 * j)))], [.int v1, .int v1], putW ks2 u2 (putW ks1 u1 W))
  refine J.run (sn_L_1 F) 1 [1] (S' := (773, [(0, .ref 900), (1, .ref 0), (2, .ref 500), (3, .int (nI (4 * j)))], [], putW ks2 u2 (putW ks1 u1 W))) (ob := [v1 = v1]) rfl (ob_c rfl ob_n) ?_
  exact hfin
set_option maxRecDepth 20000 in
set_option maxHeartbeats 4000000 in
theorem lw_2 {x : Cx} {nm : String} {d : Nat} (F : Fx x cL_law 4 RL nm (some .boolean) d) {ad : Nat → Nat} {cells slots : Nat} (hJ : jSx x ad) {b L : Nat} {xs : Nat → Int32} (hS : Sc x b L xs) (had : ad 900 = b) {j : Nat} (hj : 4 * j + 4 ≤ L) (hL : L ≤ 2048) {d1 d2 : Nat} {ws1 ws2 : Pw} {P1 P2 : Option Value → Pw → Prop} (C1 : Ctr mk_X6_fault d1 [.ref 0] ws1 P1) (C2 : Ctr mk_X7_fault d2 [.ref 500] ws2 P2) (hd1 : d1 + 1 ≤ d) (hd2 : d2 + 1 ≤ d) {W : Pw} {fs1 fs2 : List Value} (hr1 : wget ws1 0 = some (.inl (6, fs1))) (hr2 : wget ws2 500 = some (.inl (7, fs2))) (ks1 ks2 : List Nat) (hk1 : ws1.map Prod.fst = ks1) (hk2 : ws2.map Prod.fst = ks2) (hn1 : ks1.Nodup) (hn2 : ks2.Nodup) (hdis : ks2.all (fun k => nin k ks1) = true) (h1 : ws1.map (fun q => wget W q.1) = ws1.map (fun q => some q.2)) (h2 : ws2.map (fun q => wget W q.1) = ws2.map (fun q => some q.2)) (hi1 : ∀ (r : Option Value) (u : Pw), P1 r u → ∃ v : Int32, r = some (.int v))
    (kk : ∀ (v : Int32) (u1 : Pw) (r2 : Option Value) (u2 : Pw), u1.map Prod.fst = ks1 → u2.map Prod.fst = ks2 → P1 (some (.int v)) u1 → P2 r2 u2 → r2 = some (.int v) ∧ J x 4 (ad, cells, slots) (773, [(0, .ref 900), (1, .ref 0), (2, .ref 500), (3, .int (nI (4 * j)))], [], putW ks2 u2 (putW ks1 u1 W))) : J x 4 (ad, cells, slots) (224, [(0, .ref 900), (1, .ref 0), (2, .ref 500), (3, .int (nI (4 * j)))], [], W) := by
  refine J.run (sn_L_2 F) 1 [] (S' := (225, [(0, .ref 900), (1, .ref 0), (2, .ref 500), (3, .int (nI (4 * j)))], [.ref 0], W)) (ob := []) rfl ob_n ?_
  refine J.callW F hJ lk_L_25 im_X6_fault se_X6_fault (by decide +kernel) C1 hd1 [] ks1 hk1 rfl rfl rfl hr1 rfl h1 hn1 (fun r1 u1 hu1 hp1 => ?_)
  obtain ⟨v1, rfl⟩ := hi1 r1 u1 hp1
  show J x 4 (ad, cells, slots) (228, [(0, .ref 900), (1, .ref 0), (2, .ref 500), (3, .int (nI (4 * j)))], [.int v1], putW ks1 u1 W)
  have h3 : ws2.map (fun q => wget (putW ks1 u1 W) q.1) = ws2.map (fun q => some q.2) := by
    rw [← h2]
    refine List.map_congr_left fun q hq => wget_putW ?_ u1 W
    exact List.all_eq_true.mp hdis q.1 (by rw [← hk2]; exact List.mem_map.mpr ⟨q, hq, rfl⟩)
  refine J.run (sn_L_2 F) 1 [] (S' := (229, [(0, .ref 900), (1, .ref 0), (2, .ref 500), (3, .int (nI (4 * j)))], [.ref 500, .int v1], putW ks1 u1 W)) (ob := []) rfl ob_n ?_
  refine J.callW F hJ lk_L_28 im_X7_fault se_X7_fault (by decide +kernel) C2 hd2 [.int v1] ks2 hk2 rfl rfl rfl hr2 rfl h3 hn2 (fun r2 u2 hu2 hp2 => ?_)
  obtain ⟨rfl, hfin⟩ := kk v1 u1 r2 u2 hu1 hu2 hp1 hp2
  show J x 4 (ad, cells, slots) (232, [(0, .ref 900), (1, .ref 0), (2, .ref 500), (3, .int (nI (4 * j)))], [.int v1, .int v1], putW ks2 u2 (putW ks1 u1 W))
  refine J.run (sn_L_2 F) 1 [1] (S' := (773, [(0, .ref 900), (1, .ref 0), (2, .ref 500), (3, .int (nI (4 * j)))], [], putW ks2 u2 (putW ks1 u1 W))) (ob := [v1 = v1]) rfl (ob_c rfl ob_n) ?_
  exact hfin
set_option maxRecDepth 20000 in
set_option maxHeartbeats 4000000 in
theorem lw_3 {x : Cx} {nm : String} {d : Nat} (F : Fx x cL_law 4 RL nm (some .boolean) d) {ad : Nat → Nat} {cells slots : Nat} (hJ : jSx x ad) {b L : Nat} {xs : Nat → Int32} (hS : Sc x b L xs) (had : ad 900 = b) {j : Nat} (hj : 4 * j + 4 ≤ L) (hL : L ≤ 2048) {a1 : Int32} (ha1 : xs (4 * j + 1) = a1) {d1 d2 : Nat} {ws1 ws2 : Pw} {P1 P2 : Option Value → Pw → Prop} (C1 : Ctr mk_X6_told d1 [.ref 0, .int a1] ws1 P1) (C2 : Ctr mk_X7_told d2 [.ref 500, .int a1] ws2 P2) (hd1 : d1 + 1 ≤ d) (hd2 : d2 + 1 ≤ d) {W : Pw} {fs1 fs2 : List Value} (hr1 : wget ws1 0 = some (.inl (6, fs1))) (hr2 : wget ws2 500 = some (.inl (7, fs2))) (ks1 ks2 : List Nat) (hk1 : ws1.map Prod.fst = ks1) (hk2 : ws2.map Prod.fst = ks2) (hn1 : ks1.Nodup) (hn2 : ks2.Nodup) (hdis : ks2.all (fun k => nin k ks1) = true) (h1 : ws1.map (fun q => wget W q.1) = ws1.map (fun q => some q.2)) (h2 : ws2.map (fun q => wget W q.1) = ws2.map (fun q => some q.2)) (hi1 : ∀ (r : Option Value) (u : Pw), P1 r u → ∃ v : Int32, r = some (.int v))
    (kk : ∀ (v : Int32) (u1 : Pw) (r2 : Option Value) (u2 : Pw), u1.map Prod.fst = ks1 → u2.map Prod.fst = ks2 → P1 (some (.int v)) u1 → P2 r2 u2 → r2 = some (.int v) ∧ J x 4 (ad, cells, slots) (773, [(0, .ref 900), (1, .ref 0), (2, .ref 500), (3, .int (nI (4 * j)))], [], putW ks2 u2 (putW ks1 u1 W))) : J x 4 (ad, cells, slots) (237, [(0, .ref 900), (1, .ref 0), (2, .ref 500), (3, .int (nI (4 * j)))], [], W) := by
  subst ha1
  refine J.run (sn_L_3 F) 5 [] (S' := (242, [(0, .ref 900), (1, .ref 0), (2, .ref 500), (3, .int (nI (4 * j)))], [.int ((nI (4 * j)) + 1), .ref 900, .ref 0], W)) (ob := []) rfl ob_n ?_
  refine J.sld F hS had (by decide +kernel) (4 * j + 1) (sc_1 hj hL) ?_
  refine J.callW F hJ lk_L_29 im_X6_told se_X6_told (by decide +kernel) C1 hd1 [] ks1 hk1 rfl rfl rfl hr1 rfl h1 hn1 (fun r1 u1 hu1 hp1 => ?_)
  obtain ⟨v1, rfl⟩ := hi1 r1 u1 hp1
  show J x 4 (ad, cells, slots) (246, [(0, .ref 900), (1, .ref 0), (2, .ref 500), (3, .int (nI (4 * j)))], [.int v1], putW ks1 u1 W)
  have h3 : ws2.map (fun q => wget (putW ks1 u1 W) q.1) = ws2.map (fun q => some q.2) := by
    rw [← h2]
    refine List.map_congr_left fun q hq => wget_putW ?_ u1 W
    exact List.all_eq_true.mp hdis q.1 (by rw [← hk2]; exact List.mem_map.mpr ⟨q, hq, rfl⟩)
  refine J.run (sn_L_3 F) 5 [] (S' := (251, [(0, .ref 900), (1, .ref 0), (2, .ref 500), (3, .int (nI (4 * j)))], [.int ((nI (4 * j)) + 1), .ref 900, .ref 500, .int v1], putW ks1 u1 W)) (ob := []) rfl ob_n ?_
  refine J.sld F hS had (by decide +kernel) (4 * j + 1) (sc_1 hj hL) ?_
  refine J.callW F hJ lk_L_33 im_X7_told se_X7_told (by decide +kernel) C2 hd2 [.int v1] ks2 hk2 rfl rfl rfl hr2 rfl h3 hn2 (fun r2 u2 hu2 hp2 => ?_)
  obtain ⟨rfl, hfin⟩ := kk v1 u1 r2 u2 hu1 hu2 hp1 hp2
  show J x 4 (ad, cells, slots) (255, [(0, .ref 900), (1, .ref 0), (2, .ref 500), (3, .int (nI (4 * j)))], [.int v1, .int v1], putW ks2 u2 (putW ks1 u1 W))
  refine J.run (sn_L_3 F) 1 [1] (S' := (773, [(0, .ref 900), (1, .ref 0), (2, .ref 500), (3, .int (nI (4 * j)))], [], putW ks2 u2 (putW ks1 u1 W))) (ob := [v1 = v1]) rfl (ob_c rfl ob_n) ?_
  exact hfin
set_option maxRecDepth 20000 in
set_option maxHeartbeats 4000000 in
theorem lw_4 {x : Cx} {nm : String} {d : Nat} (F : Fx x cL_law 4 RL nm (some .boolean) d) {ad : Nat → Nat} {cells slots : Nat} (hJ : jSx x ad) {b L : Nat} {xs : Nat → Int32} (hS : Sc x b L xs) (had : ad 900 = b) {j : Nat} (hj : 4 * j + 4 ≤ L) (hL : L ≤ 2048) {a1 : Int32} {a2 : Int32} (ha1 : xs (4 * j + 1) = a1) (ha2 : xs (4 * j + 2) = a2) {d1 d2 : Nat} {ws1 ws2 : Pw} {P1 P2 : Option Value → Pw → Prop} (C1 : Ctr mk_X6_member d1 [.ref 0, .int a1, .int a2] ws1 P1) (C2 : Ctr mk_X7_member d2 [.ref 500, .int a1, .int a2] ws2 P2) (hd1 : d1 + 1 ≤ d) (hd2 : d2 + 1 ≤ d) {W : Pw} {fs1 fs2 : List Value} (hr1 : wget ws1 0 = some (.inl (6, fs1))) (hr2 : wget ws2 500 = some (.inl (7, fs2))) (ks1 ks2 : List Nat) (hk1 : ws1.map Prod.fst = ks1) (hk2 : ws2.map Prod.fst = ks2) (hn1 : ks1.Nodup) (hn2 : ks2.Nodup) (hdis : ks2.all (fun k => nin k ks1) = true) (h1 : ws1.map (fun q => wget W q.1) = ws1.map (fun q => some q.2)) (h2 : ws2.map (fun q => wget W q.1) = ws2.map (fun q => some q.2)) (hi1 : ∀ (r : Option Value) (u : Pw), P1 r u → ∃ v : Int32, r = some (.int v))
    (kk : ∀ (v : Int32) (u1 : Pw) (r2 : Option Value) (u2 : Pw), u1.map Prod.fst = ks1 → u2.map Prod.fst = ks2 → P1 (some (.int v)) u1 → P2 r2 u2 → r2 = some (.int v) ∧ J x 4 (ad, cells, slots) (773, [(0, .ref 900), (1, .ref 0), (2, .ref 500), (3, .int (nI (4 * j)))], [], putW ks2 u2 (putW ks1 u1 W))) : J x 4 (ad, cells, slots) (260, [(0, .ref 900), (1, .ref 0), (2, .ref 500), (3, .int (nI (4 * j)))], [], W) := by
  subst ha1 ha2
  refine J.run (sn_L_4 F) 5 [] (S' := (265, [(0, .ref 900), (1, .ref 0), (2, .ref 500), (3, .int (nI (4 * j)))], [.int ((nI (4 * j)) + 1), .ref 900, .ref 0], W)) (ob := []) rfl ob_n ?_
  refine J.sld F hS had (by decide +kernel) (4 * j + 1) (sc_1 hj hL) ?_
  refine J.run (sn_L_4 F) 4 [] (S' := (270, [(0, .ref 900), (1, .ref 0), (2, .ref 500), (3, .int (nI (4 * j)))], [.int ((nI (4 * j)) + 2), .ref 900, .int (xs (4 * j + 1)), .ref 0], W)) (ob := []) rfl ob_n ?_
  refine J.sld F hS had (by decide +kernel) (4 * j + 2) (sc_2 hj hL) ?_
  refine J.callW F hJ lk_L_34 im_X6_member se_X6_member (by decide +kernel) C1 hd1 [] ks1 hk1 rfl rfl rfl hr1 rfl h1 hn1 (fun r1 u1 hu1 hp1 => ?_)
  obtain ⟨v1, rfl⟩ := hi1 r1 u1 hp1
  show J x 4 (ad, cells, slots) (274, [(0, .ref 900), (1, .ref 0), (2, .ref 500), (3, .int (nI (4 * j)))], [.int v1], putW ks1 u1 W)
  have h3 : ws2.map (fun q => wget (putW ks1 u1 W) q.1) = ws2.map (fun q => some q.2) := by
    rw [← h2]
    refine List.map_congr_left fun q hq => wget_putW ?_ u1 W
    exact List.all_eq_true.mp hdis q.1 (by rw [← hk2]; exact List.mem_map.mpr ⟨q, hq, rfl⟩)
  refine J.run (sn_L_4 F) 5 [] (S' := (279, [(0, .ref 900), (1, .ref 0), (2, .ref 500), (3, .int (nI (4 * j)))], [.int ((nI (4 * j)) + 1), .ref 900, .ref 500, .int v1], putW ks1 u1 W)) (ob := []) rfl ob_n ?_
  refine J.sld F hS had (by decide +kernel) (4 * j + 1) (sc_1 hj hL) ?_
  refine J.run (sn_L_4 F) 4 [] (S' := (284, [(0, .ref 900), (1, .ref 0), (2, .ref 500), (3, .int (nI (4 * j)))], [.int ((nI (4 * j)) + 2), .ref 900, .int (xs (4 * j + 1)), .ref 500, .int v1], putW ks1 u1 W)) (ob := []) rfl ob_n ?_
  refine J.sld F hS had (by decide +kernel) (4 * j + 2) (sc_2 hj hL) ?_
  refine J.callW F hJ lk_L_38 im_X7_member se_X7_member (by decide +kernel) C2 hd2 [.int v1] ks2 hk2 rfl rfl rfl hr2 rfl h3 hn2 (fun r2 u2 hu2 hp2 => ?_)
  obtain ⟨rfl, hfin⟩ := kk v1 u1 r2 u2 hu1 hu2 hp1 hp2
  show J x 4 (ad, cells, slots) (288, [(0, .ref 900), (1, .ref 0), (2, .ref 500), (3, .int (nI (4 * j)))], [.int v1, .int v1], putW ks2 u2 (putW ks1 u1 W))
  refine J.run (sn_L_4 F) 1 [1] (S' := (773, [(0, .ref 900), (1, .ref 0), (2, .ref 500), (3, .int (nI (4 * j)))], [], putW ks2 u2 (putW ks1 u1 W))) (ob := [v1 = v1]) rfl (ob_c rfl ob_n) ?_
  exact hfin
set_option maxRecDepth 20000 in
set_option maxHeartbeats 4000000 in
theorem lw_5 {x : Cx} {nm : String} {d : Nat} (F : Fx x cL_law 4 RL nm (some .boolean) d) {ad : Nat → Nat} {cells slots : Nat} (hJ : jSx x ad) {b L : Nat} {xs : Nat → Int32} (hS : Sc x b L xs) (had : ad 900 = b) {j : Nat} (hj : 4 * j + 4 ≤ L) (hL : L ≤ 2048) {a1 : Int32} (ha1 : xs (4 * j + 1) = a1) {d1 d2 : Nat} {ws1 ws2 : Pw} {P1 P2 : Option Value → Pw → Prop} (C1 : Ctr mk_X6_beat d1 [.ref 0, .int a1] ws1 P1) (C2 : Ctr mk_X7_beat d2 [.ref 500, .int a1] ws2 P2) (hd1 : d1 + 1 ≤ d) (hd2 : d2 + 1 ≤ d) {W : Pw} {fs1 fs2 : List Value} (hr1 : wget ws1 0 = some (.inl (6, fs1))) (hr2 : wget ws2 500 = some (.inl (7, fs2))) (ks1 ks2 : List Nat) (hk1 : ws1.map Prod.fst = ks1) (hk2 : ws2.map Prod.fst = ks2) (hn1 : ks1.Nodup) (hn2 : ks2.Nodup) (hdis : ks2.all (fun k => nin k ks1) = true) (h1 : ws1.map (fun q => wget W q.1) = ws1.map (fun q => some q.2)) (h2 : ws2.map (fun q => wget W q.1) = ws2.map (fun q => some q.2)) (hi1 : ∀ (r : Option Value) (u : Pw), P1 r u → ∃ v : Int32, r = some (.int v))
    (kk : ∀ (v : Int32) (u1 : Pw) (r2 : Option Value) (u2 : Pw), u1.map Prod.fst = ks1 → u2.map Prod.fst = ks2 → P1 (some (.int v)) u1 → P2 r2 u2 → r2 = some (.int v) ∧ J x 4 (ad, cells, slots) (773, [(0, .ref 900), (1, .ref 0), (2, .ref 500), (3, .int (nI (4 * j)))], [], putW ks2 u2 (putW ks1 u1 W))) : J x 4 (ad, cells, slots) (293, [(0, .ref 900), (1, .ref 0), (2, .ref 500), (3, .int (nI (4 * j)))], [], W) := by
  subst ha1
  refine J.run (sn_L_5 F) 5 [] (S' := (298, [(0, .ref 900), (1, .ref 0), (2, .ref 500), (3, .int (nI (4 * j)))], [.int ((nI (4 * j)) + 1), .ref 900, .ref 0], W)) (ob := []) rfl ob_n ?_
  refine J.sld F hS had (by decide +kernel) (4 * j + 1) (sc_1 hj hL) ?_
  refine J.callW F hJ lk_L_39 im_X6_beat se_X6_beat (by decide +kernel) C1 hd1 [] ks1 hk1 rfl rfl rfl hr1 rfl h1 hn1 (fun r1 u1 hu1 hp1 => ?_)
  obtain ⟨v1, rfl⟩ := hi1 r1 u1 hp1
  show J x 4 (ad, cells, slots) (302, [(0, .ref 900), (1, .ref 0), (2, .ref 500), (3, .int (nI (4 * j)))], [.int v1], putW ks1 u1 W)
  have h3 : ws2.map (fun q => wget (putW ks1 u1 W) q.1) = ws2.map (fun q => some q.2) := by
    rw [← h2]
    refine List.map_congr_left fun q hq => wget_putW ?_ u1 W
    exact List.all_eq_true.mp hdis q.1 (by rw [← hk2]; exact List.mem_map.mpr ⟨q, hq, rfl⟩)
  refine J.run (sn_L_5 F) 5 [] (S' := (307, [(0, .ref 900), (1, .ref 0), (2, .ref 500), (3, .int (nI (4 * j)))], [.int ((nI (4 * j)) + 1), .ref 900, .ref 500, .int v1], putW ks1 u1 W)) (ob := []) rfl ob_n ?_
  refine J.sld F hS had (by decide +kernel) (4 * j + 1) (sc_1 hj hL) ?_
  refine J.callW F hJ lk_L_42 im_X7_beat se_X7_beat (by decide +kernel) C2 hd2 [.int v1] ks2 hk2 rfl rfl rfl hr2 rfl h3 hn2 (fun r2 u2 hu2 hp2 => ?_)
  obtain ⟨rfl, hfin⟩ := kk v1 u1 r2 u2 hu1 hu2 hp1 hp2
  show J x 4 (ad, cells, slots) (311, [(0, .ref 900), (1, .ref 0), (2, .ref 500), (3, .int (nI (4 * j)))], [.int v1, .int v1], putW ks2 u2 (putW ks1 u1 W))
  refine J.run (sn_L_5 F) 1 [1] (S' := (773, [(0, .ref 900), (1, .ref 0), (2, .ref 500), (3, .int (nI (4 * j)))], [], putW ks2 u2 (putW ks1 u1 W))) (ob := [v1 = v1]) rfl (ob_c rfl ob_n) ?_
  exact hfin
set_option maxRecDepth 20000 in
set_option maxHeartbeats 4000000 in
theorem lw_6 {x : Cx} {nm : String} {d : Nat} (F : Fx x cL_law 4 RL nm (some .boolean) d) {ad : Nat → Nat} {cells slots : Nat} (hJ : jSx x ad) {b L : Nat} {xs : Nat → Int32} (hS : Sc x b L xs) (had : ad 900 = b) {j : Nat} (hj : 4 * j + 4 ≤ L) (hL : L ≤ 2048) {a1 : Int32} {a2 : Int32} (ha1 : xs (4 * j + 1) = a1) (ha2 : xs (4 * j + 2) = a2) {d1 d2 : Nat} {ws1 ws2 : Pw} {P1 P2 : Option Value → Pw → Prop} (C1 : Ctr mk_X6_theme d1 [.ref 0, .int a1, .int a2] ws1 P1) (C2 : Ctr mk_X7_theme d2 [.ref 500, .int a1, .int a2] ws2 P2) (hd1 : d1 + 1 ≤ d) (hd2 : d2 + 1 ≤ d) {W : Pw} {fs1 fs2 : List Value} (hr1 : wget ws1 0 = some (.inl (6, fs1))) (hr2 : wget ws2 500 = some (.inl (7, fs2))) (ks1 ks2 : List Nat) (hk1 : ws1.map Prod.fst = ks1) (hk2 : ws2.map Prod.fst = ks2) (hn1 : ks1.Nodup) (hn2 : ks2.Nodup) (hdis : ks2.all (fun k => nin k ks1) = true) (h1 : ws1.map (fun q => wget W q.1) = ws1.map (fun q => some q.2)) (h2 : ws2.map (fun q => wget W q.1) = ws2.map (fun q => some q.2)) (hi1 : ∀ (r : Option Value) (u : Pw), P1 r u → ∃ v : Int32, r = some (.int v))
    (kk : ∀ (v : Int32) (u1 : Pw) (r2 : Option Value) (u2 : Pw), u1.map Prod.fst = ks1 → u2.map Prod.fst = ks2 → P1 (some (.int v)) u1 → P2 r2 u2 → r2 = some (.int v) ∧ J x 4 (ad, cells, slots) (773, [(0, .ref 900), (1, .ref 0), (2, .ref 500), (3, .int (nI (4 * j)))], [], putW ks2 u2 (putW ks1 u1 W))) : J x 4 (ad, cells, slots) (316, [(0, .ref 900), (1, .ref 0), (2, .ref 500), (3, .int (nI (4 * j)))], [], W) := by
  subst ha1 ha2
  refine J.run (sn_L_6 F) 5 [] (S' := (321, [(0, .ref 900), (1, .ref 0), (2, .ref 500), (3, .int (nI (4 * j)))], [.int ((nI (4 * j)) + 1), .ref 900, .ref 0], W)) (ob := []) rfl ob_n ?_
  refine J.sld F hS had (by decide +kernel) (4 * j + 1) (sc_1 hj hL) ?_
  refine J.run (sn_L_6 F) 4 [] (S' := (326, [(0, .ref 900), (1, .ref 0), (2, .ref 500), (3, .int (nI (4 * j)))], [.int ((nI (4 * j)) + 2), .ref 900, .int (xs (4 * j + 1)), .ref 0], W)) (ob := []) rfl ob_n ?_
  refine J.sld F hS had (by decide +kernel) (4 * j + 2) (sc_2 hj hL) ?_
  refine J.callW F hJ lk_L_43 im_X6_theme se_X6_theme (by decide +kernel) C1 hd1 [] ks1 hk1 rfl rfl rfl hr1 rfl h1 hn1 (fun r1 u1 hu1 hp1 => ?_)
  obtain ⟨v1, rfl⟩ := hi1 r1 u1 hp1
  show J x 4 (ad, cells, slots) (330, [(0, .ref 900), (1, .ref 0), (2, .ref 500), (3, .int (nI (4 * j)))], [.int v1], putW ks1 u1 W)
  have h3 : ws2.map (fun q => wget (putW ks1 u1 W) q.1) = ws2.map (fun q => some q.2) := by
    rw [← h2]
    refine List.map_congr_left fun q hq => wget_putW ?_ u1 W
    exact List.all_eq_true.mp hdis q.1 (by rw [← hk2]; exact List.mem_map.mpr ⟨q, hq, rfl⟩)
  refine J.run (sn_L_6 F) 5 [] (S' := (335, [(0, .ref 900), (1, .ref 0), (2, .ref 500), (3, .int (nI (4 * j)))], [.int ((nI (4 * j)) + 1), .ref 900, .ref 500, .int v1], putW ks1 u1 W)) (ob := []) rfl ob_n ?_
  refine J.sld F hS had (by decide +kernel) (4 * j + 1) (sc_1 hj hL) ?_
  refine J.run (sn_L_6 F) 4 [] (S' := (340, [(0, .ref 900), (1, .ref 0), (2, .ref 500), (3, .int (nI (4 * j)))], [.int ((nI (4 * j)) + 2), .ref 900, .int (xs (4 * j + 1)), .ref 500, .int v1], putW ks1 u1 W)) (ob := []) rfl ob_n ?_
  refine J.sld F hS had (by decide +kernel) (4 * j + 2) (sc_2 hj hL) ?_
  refine J.callW F hJ lk_L_46 im_X7_theme se_X7_theme (by decide +kernel) C2 hd2 [.int v1] ks2 hk2 rfl rfl rfl hr2 rfl h3 hn2 (fun r2 u2 hu2 hp2 => ?_)
  obtain ⟨rfl, hfin⟩ := kk v1 u1 r2 u2 hu1 hu2 hp1 hp2
  show J x 4 (ad, cells, slots) (344, [(0, .ref 900), (1, .ref 0), (2, .ref 500), (3, .int (nI (4 * j)))], [.int v1, .int v1], putW ks2 u2 (putW ks1 u1 W))
  refine J.run (sn_L_6 F) 1 [1] (S' := (773, [(0, .ref 900), (1, .ref 0), (2, .ref 500), (3, .int (nI (4 * j)))], [], putW ks2 u2 (putW ks1 u1 W))) (ob := [v1 = v1]) rfl (ob_c rfl ob_n) ?_
  exact hfin
set_option maxRecDepth 20000 in
set_option maxHeartbeats 4000000 in
theorem lw_7 {x : Cx} {nm : String} {d : Nat} (F : Fx x cL_law 4 RL nm (some .boolean) d) {ad : Nat → Nat} {cells slots : Nat} (hJ : jSx x ad) {b L : Nat} {xs : Nat → Int32} (hS : Sc x b L xs) (had : ad 900 = b) {j : Nat} (hj : 4 * j + 4 ≤ L) (hL : L ≤ 2048) {a1 : Int32} {a2 : Int32} {a3 : Int32} (ha1 : xs (4 * j + 1) = a1) (ha2 : xs (4 * j + 2) = a2) (ha3 : xs (4 * j + 3) = a3) {d1 d2 : Nat} {ws1 ws2 : Pw} {P1 P2 : Option Value → Pw → Prop} (C1 : Ctr mk_X6_law d1 [.ref 0, .int a1, .int a2, .int a3] ws1 P1) (C2 : Ctr mk_X7_law d2 [.ref 500, .int a1, .int a2, .int a3] ws2 P2) (hd1 : d1 + 1 ≤ d) (hd2 : d2 + 1 ≤ d) {W : Pw} {fs1 fs2 : List Value} (hr1 : wget ws1 0 = some (.inl (6, fs1))) (hr2 : wget ws2 500 = some (.inl (7, fs2))) (ks1 ks2 : List Nat) (hk1 : ws1.map Prod.fst = ks1) (hk2 : ws2.map Prod.fst = ks2) (hn1 : ks1.Nodup) (hn2 : ks2.Nodup) (hdis : ks2.all (fun k => nin k ks1) = true) (h1 : ws1.map (fun q => wget W q.1) = ws1.map (fun q => some q.2)) (h2 : ws2.map (fun q => wget W q.1) = ws2.map (fun q => some q.2)) (hi1 : ∀ (r : Option Value) (u : Pw), P1 r u → ∃ v : Int32, r = some (.int v))
    (kk : ∀ (v : Int32) (u1 : Pw) (r2 : Option Value) (u2 : Pw), u1.map Prod.fst = ks1 → u2.map Prod.fst = ks2 → P1 (some (.int v)) u1 → P2 r2 u2 → r2 = some (.int v) ∧ J x 4 (ad, cells, slots) (773, [(0, .ref 900), (1, .ref 0), (2, .ref 500), (3, .int (nI (4 * j)))], [], putW ks2 u2 (putW ks1 u1 W))) : J x 4 (ad, cells, slots) (349, [(0, .ref 900), (1, .ref 0), (2, .ref 500), (3, .int (nI (4 * j)))], [], W) := by
  subst ha1 ha2 ha3
  refine J.run (sn_L_7 F) 5 [] (S' := (354, [(0, .ref 900), (1, .ref 0), (2, .ref 500), (3, .int (nI (4 * j)))], [.int ((nI (4 * j)) + 1), .ref 900, .ref 0], W)) (ob := []) rfl ob_n ?_
  refine J.sld F hS had (by decide +kernel) (4 * j + 1) (sc_1 hj hL) ?_
  refine J.run (sn_L_7 F) 4 [] (S' := (359, [(0, .ref 900), (1, .ref 0), (2, .ref 500), (3, .int (nI (4 * j)))], [.int ((nI (4 * j)) + 2), .ref 900, .int (xs (4 * j + 1)), .ref 0], W)) (ob := []) rfl ob_n ?_
  refine J.sld F hS had (by decide +kernel) (4 * j + 2) (sc_2 hj hL) ?_
  refine J.run (sn_L_7 F) 4 [] (S' := (364, [(0, .ref 900), (1, .ref 0), (2, .ref 500), (3, .int (nI (4 * j)))], [.int ((nI (4 * j)) + 3), .ref 900, .int (xs (4 * j + 2)), .int (xs (4 * j + 1)), .ref 0], W)) (ob := []) rfl ob_n ?_
  refine J.sld F hS had (by decide +kernel) (4 * j + 3) (sc_3 hj hL) ?_
  refine J.callW F hJ lk_L_47 im_X6_law se_X6_law (by decide +kernel) C1 hd1 [] ks1 hk1 rfl rfl rfl hr1 rfl h1 hn1 (fun r1 u1 hu1 hp1 => ?_)
  obtain ⟨v1, rfl⟩ := hi1 r1 u1 hp1
  show J x 4 (ad, cells, slots) (368, [(0, .ref 900), (1, .ref 0), (2, .ref 500), (3, .int (nI (4 * j)))], [.int v1], putW ks1 u1 W)
  have h3 : ws2.map (fun q => wget (putW ks1 u1 W) q.1) = ws2.map (fun q => some q.2) := by
    rw [← h2]
    refine List.map_congr_left fun q hq => wget_putW ?_ u1 W
    exact List.all_eq_true.mp hdis q.1 (by rw [← hk2]; exact List.mem_map.mpr ⟨q, hq, rfl⟩)
  refine J.run (sn_L_7 F) 5 [] (S' := (373, [(0, .ref 900), (1, .ref 0), (2, .ref 500), (3, .int (nI (4 * j)))], [.int ((nI (4 * j)) + 1), .ref 900, .ref 500, .int v1], putW ks1 u1 W)) (ob := []) rfl ob_n ?_
  refine J.sld F hS had (by decide +kernel) (4 * j + 1) (sc_1 hj hL) ?_
  refine J.run (sn_L_7 F) 4 [] (S' := (378, [(0, .ref 900), (1, .ref 0), (2, .ref 500), (3, .int (nI (4 * j)))], [.int ((nI (4 * j)) + 2), .ref 900, .int (xs (4 * j + 1)), .ref 500, .int v1], putW ks1 u1 W)) (ob := []) rfl ob_n ?_
  refine J.sld F hS had (by decide +kernel) (4 * j + 2) (sc_2 hj hL) ?_
  refine J.run (sn_L_7 F) 4 [] (S' := (383, [(0, .ref 900), (1, .ref 0), (2, .ref 500), (3, .int (nI (4 * j)))], [.int ((nI (4 * j)) + 3), .ref 900, .int (xs (4 * j + 2)), .int (xs (4 * j + 1)), .ref 500, .int v1], putW ks1 u1 W)) (ob := []) rfl ob_n ?_
  refine J.sld F hS had (by decide +kernel) (4 * j + 3) (sc_3 hj hL) ?_
  refine J.callW F hJ lk_L_51 im_X7_law se_X7_law (by decide +kernel) C2 hd2 [.int v1] ks2 hk2 rfl rfl rfl hr2 rfl h3 hn2 (fun r2 u2 hu2 hp2 => ?_)
  obtain ⟨rfl, hfin⟩ := kk v1 u1 r2 u2 hu1 hu2 hp1 hp2
  show J x 4 (ad, cells, slots) (387, [(0, .ref 900), (1, .ref 0), (2, .ref 500), (3, .int (nI (4 * j)))], [.int v1, .int v1], putW ks2 u2 (putW ks1 u1 W))
  refine J.run (sn_L_7 F) 1 [1] (S' := (773, [(0, .ref 900), (1, .ref 0), (2, .ref 500), (3, .int (nI (4 * j)))], [], putW ks2 u2 (putW ks1 u1 W))) (ob := [v1 = v1]) rfl (ob_c rfl ob_n) ?_
  exact hfin
set_option maxRecDepth 20000 in
set_option maxHeartbeats 4000000 in
theorem lw_8 {x : Cx} {nm : String} {d : Nat} (F : Fx x cL_law 4 RL nm (some .boolean) d) {ad : Nat → Nat} {cells slots : Nat} (hJ : jSx x ad) {b L : Nat} {xs : Nat → Int32} (hS : Sc x b L xs) (had : ad 900 = b) {j : Nat} (hj : 4 * j + 4 ≤ L) (hL : L ≤ 2048) {a1 : Int32} (ha1 : xs (4 * j + 1) = a1) {d1 d2 : Nat} {ws1 ws2 : Pw} {P1 P2 : Option Value → Pw → Prop} (C1 : Ctr mk_X6_drift d1 [.ref 0, .int a1] ws1 P1) (C2 : Ctr mk_X7_drift d2 [.ref 500, .int a1] ws2 P2) (hd1 : d1 + 1 ≤ d) (hd2 : d2 + 1 ≤ d) {W : Pw} {fs1 fs2 : List Value} (hr1 : wget ws1 0 = some (.inl (6, fs1))) (hr2 : wget ws2 500 = some (.inl (7, fs2))) (ks1 ks2 : List Nat) (hk1 : ws1.map Prod.fst = ks1) (hk2 : ws2.map Prod.fst = ks2) (hn1 : ks1.Nodup) (hn2 : ks2.Nodup) (hdis : ks2.all (fun k => nin k ks1) = true) (h1 : ws1.map (fun q => wget W q.1) = ws1.map (fun q => some q.2)) (h2 : ws2.map (fun q => wget W q.1) = ws2.map (fun q => some q.2)) (hi1 : ∀ (r : Option Value) (u : Pw), P1 r u → ∃ v : Int32, r = some (.int v))
    (kk : ∀ (v : Int32) (u1 : Pw) (r2 : Option Value) (u2 : Pw), u1.map Prod.fst = ks1 → u2.map Prod.fst = ks2 → P1 (some (.int v)) u1 → P2 r2 u2 → r2 = some (.int v) ∧ J x 4 (ad, cells, slots) (773, [(0, .ref 900), (1, .ref 0), (2, .ref 500), (3, .int (nI (4 * j)))], [], putW ks2 u2 (putW ks1 u1 W))) : J x 4 (ad, cells, slots) (392, [(0, .ref 900), (1, .ref 0), (2, .ref 500), (3, .int (nI (4 * j)))], [], W) := by
  subst ha1
  refine J.run (sn_L_8 F) 5 [] (S' := (397, [(0, .ref 900), (1, .ref 0), (2, .ref 500), (3, .int (nI (4 * j)))], [.int ((nI (4 * j)) + 1), .ref 900, .ref 0], W)) (ob := []) rfl ob_n ?_
  refine J.sld F hS had (by decide +kernel) (4 * j + 1) (sc_1 hj hL) ?_
  refine J.callW F hJ lk_L_52 im_X6_drift se_X6_drift (by decide +kernel) C1 hd1 [] ks1 hk1 rfl rfl rfl hr1 rfl h1 hn1 (fun r1 u1 hu1 hp1 => ?_)
  obtain ⟨v1, rfl⟩ := hi1 r1 u1 hp1
  show J x 4 (ad, cells, slots) (401, [(0, .ref 900), (1, .ref 0), (2, .ref 500), (3, .int (nI (4 * j)))], [.int v1], putW ks1 u1 W)
  have h3 : ws2.map (fun q => wget (putW ks1 u1 W) q.1) = ws2.map (fun q => some q.2) := by
    rw [← h2]
    refine List.map_congr_left fun q hq => wget_putW ?_ u1 W
    exact List.all_eq_true.mp hdis q.1 (by rw [← hk2]; exact List.mem_map.mpr ⟨q, hq, rfl⟩)
  refine J.run (sn_L_8 F) 5 [] (S' := (406, [(0, .ref 900), (1, .ref 0), (2, .ref 500), (3, .int (nI (4 * j)))], [.int ((nI (4 * j)) + 1), .ref 900, .ref 500, .int v1], putW ks1 u1 W)) (ob := []) rfl ob_n ?_
  refine J.sld F hS had (by decide +kernel) (4 * j + 1) (sc_1 hj hL) ?_
  refine J.callW F hJ lk_L_55 im_X7_drift se_X7_drift (by decide +kernel) C2 hd2 [.int v1] ks2 hk2 rfl rfl rfl hr2 rfl h3 hn2 (fun r2 u2 hu2 hp2 => ?_)
  obtain ⟨rfl, hfin⟩ := kk v1 u1 r2 u2 hu1 hu2 hp1 hp2
  show J x 4 (ad, cells, slots) (410, [(0, .ref 900), (1, .ref 0), (2, .ref 500), (3, .int (nI (4 * j)))], [.int v1, .int v1], putW ks2 u2 (putW ks1 u1 W))
  refine J.run (sn_L_8 F) 1 [1] (S' := (773, [(0, .ref 900), (1, .ref 0), (2, .ref 500), (3, .int (nI (4 * j)))], [], putW ks2 u2 (putW ks1 u1 W))) (ob := [v1 = v1]) rfl (ob_c rfl ob_n) ?_
  exact hfin
set_option maxRecDepth 20000 in
set_option maxHeartbeats 4000000 in
theorem lw_9 {x : Cx} {nm : String} {d : Nat} (F : Fx x cL_law 4 RL nm (some .boolean) d) {ad : Nat → Nat} {cells slots : Nat} (hJ : jSx x ad) {b L : Nat} {xs : Nat → Int32} (hS : Sc x b L xs) (had : ad 900 = b) {j : Nat} (hj : 4 * j + 4 ≤ L) (hL : L ≤ 2048) {a1 : Int32} (ha1 : xs (4 * j + 1) = a1) {d1 d2 : Nat} {ws1 ws2 : Pw} {P1 P2 : Option Value → Pw → Prop} (C1 : Ctr mk_X6_plan d1 [.ref 0, .int a1] ws1 P1) (C2 : Ctr mk_X7_plan d2 [.ref 500, .int a1] ws2 P2) (hd1 : d1 + 1 ≤ d) (hd2 : d2 + 1 ≤ d) {W : Pw} {fs1 fs2 : List Value} (hr1 : wget ws1 0 = some (.inl (6, fs1))) (hr2 : wget ws2 500 = some (.inl (7, fs2))) (ks1 ks2 : List Nat) (hk1 : ws1.map Prod.fst = ks1) (hk2 : ws2.map Prod.fst = ks2) (hn1 : ks1.Nodup) (hn2 : ks2.Nodup) (hdis : ks2.all (fun k => nin k ks1) = true) (h1 : ws1.map (fun q => wget W q.1) = ws1.map (fun q => some q.2)) (h2 : ws2.map (fun q => wget W q.1) = ws2.map (fun q => some q.2)) (hi1 : ∀ (r : Option Value) (u : Pw), P1 r u → ∃ v : Int32, r = some (.int v))
    (kk : ∀ (v : Int32) (u1 : Pw) (r2 : Option Value) (u2 : Pw), u1.map Prod.fst = ks1 → u2.map Prod.fst = ks2 → P1 (some (.int v)) u1 → P2 r2 u2 → r2 = some (.int v) ∧ J x 4 (ad, cells, slots) (773, [(0, .ref 900), (1, .ref 0), (2, .ref 500), (3, .int (nI (4 * j)))], [], putW ks2 u2 (putW ks1 u1 W))) : J x 4 (ad, cells, slots) (415, [(0, .ref 900), (1, .ref 0), (2, .ref 500), (3, .int (nI (4 * j)))], [], W) := by
  subst ha1
  refine J.run (sn_L_9 F) 5 [] (S' := (420, [(0, .ref 900), (1, .ref 0), (2, .ref 500), (3, .int (nI (4 * j)))], [.int ((nI (4 * j)) + 1), .ref 900, .ref 0], W)) (ob := []) rfl ob_n ?_
  refine J.sld F hS had (by decide +kernel) (4 * j + 1) (sc_1 hj hL) ?_
  refine J.callW F hJ lk_L_56 im_X6_plan se_X6_plan (by decide +kernel) C1 hd1 [] ks1 hk1 rfl rfl rfl hr1 rfl h1 hn1 (fun r1 u1 hu1 hp1 => ?_)
  obtain ⟨v1, rfl⟩ := hi1 r1 u1 hp1
  show J x 4 (ad, cells, slots) (424, [(0, .ref 900), (1, .ref 0), (2, .ref 500), (3, .int (nI (4 * j)))], [.int v1], putW ks1 u1 W)
  have h3 : ws2.map (fun q => wget (putW ks1 u1 W) q.1) = ws2.map (fun q => some q.2) := by
    rw [← h2]
    refine List.map_congr_left fun q hq => wget_putW ?_ u1 W
    exact List.all_eq_true.mp hdis q.1 (by rw [← hk2]; exact List.mem_map.mpr ⟨q, hq, rfl⟩)
  refine J.run (sn_L_9 F) 5 [] (S' := (429, [(0, .ref 900), (1, .ref 0), (2, .ref 500), (3, .int (nI (4 * j)))], [.int ((nI (4 * j)) + 1), .ref 900, .ref 500, .int v1], putW ks1 u1 W)) (ob := []) rfl ob_n ?_
  refine J.sld F hS had (by decide +kernel) (4 * j + 1) (sc_1 hj hL) ?_
  refine J.callW F hJ lk_L_59 im_X7_plan se_X7_plan (by decide +kernel) C2 hd2 [.int v1] ks2 hk2 rfl rfl rfl hr2 rfl h3 hn2 (fun r2 u2 hu2 hp2 => ?_)
  obtain ⟨rfl, hfin⟩ := kk v1 u1 r2 u2 hu1 hu2 hp1 hp2
  show J x 4 (ad, cells, slots) (433, [(0, .ref 900), (1, .ref 0), (2, .ref 500), (3, .int (nI (4 * j)))], [.int v1, .int v1], putW ks2 u2 (putW ks1 u1 W))
  refine J.run (sn_L_9 F) 1 [1] (S' := (773, [(0, .ref 900), (1, .ref 0), (2, .ref 500), (3, .int (nI (4 * j)))], [], putW ks2 u2 (putW ks1 u1 W))) (ob := [v1 = v1]) rfl (ob_c rfl ob_n) ?_
  exact hfin
set_option maxRecDepth 20000 in
set_option maxHeartbeats 4000000 in
theorem lw_10 {x : Cx} {nm : String} {d : Nat} (F : Fx x cL_law 4 RL nm (some .boolean) d) {ad : Nat → Nat} {cells slots : Nat} (hJ : jSx x ad) {b L : Nat} {xs : Nat → Int32} (hS : Sc x b L xs) (had : ad 900 = b) {j : Nat} (hj : 4 * j + 4 ≤ L) (hL : L ≤ 2048) {d1 d2 : Nat} {ws1 ws2 : Pw} {P1 P2 : Option Value → Pw → Prop} (C1 : Ctr mk_X6_drop d1 [.ref 0] ws1 P1) (C2 : Ctr mk_X7_drop d2 [.ref 500] ws2 P2) (hd1 : d1 + 1 ≤ d) (hd2 : d2 + 1 ≤ d) {W : Pw} {fs1 fs2 : List Value} (hr1 : wget ws1 0 = some (.inl (6, fs1))) (hr2 : wget ws2 500 = some (.inl (7, fs2))) (ks1 ks2 : List Nat) (hk1 : ws1.map Prod.fst = ks1) (hk2 : ws2.map Prod.fst = ks2) (hn1 : ks1.Nodup) (hn2 : ks2.Nodup) (hdis : ks2.all (fun k => nin k ks1) = true) (h1 : ws1.map (fun q => wget W q.1) = ws1.map (fun q => some q.2)) (h2 : ws2.map (fun q => wget W q.1) = ws2.map (fun q => some q.2)) (hi1 : ∀ (r : Option Value) (u : Pw), P1 r u → ∃ v : Int32, r = some (.int v))
    (kk : ∀ (v : Int32) (u1 : Pw) (r2 : Option Value) (u2 : Pw), u1.map Prod.fst = ks1 → u2.map Prod.fst = ks2 → P1 (some (.int v)) u1 → P2 r2 u2 → r2 = some (.int v) ∧ J x 4 (ad, cells, slots) (773, [(0, .ref 900), (1, .ref 0), (2, .ref 500), (3, .int (nI (4 * j)))], [], putW ks2 u2 (putW ks1 u1 W))) : J x 4 (ad, cells, slots) (438, [(0, .ref 900), (1, .ref 0), (2, .ref 500), (3, .int (nI (4 * j)))], [], W) := by
  refine J.run (sn_L_10 F) 1 [] (S' := (439, [(0, .ref 900), (1, .ref 0), (2, .ref 500), (3, .int (nI (4 * j)))], [.ref 0], W)) (ob := []) rfl ob_n ?_
  refine J.callW F hJ lk_L_60 im_X6_drop se_X6_drop (by decide +kernel) C1 hd1 [] ks1 hk1 rfl rfl rfl hr1 rfl h1 hn1 (fun r1 u1 hu1 hp1 => ?_)
  obtain ⟨v1, rfl⟩ := hi1 r1 u1 hp1
  show J x 4 (ad, cells, slots) (442, [(0, .ref 900), (1, .ref 0), (2, .ref 500), (3, .int (nI (4 * j)))], [.int v1], putW ks1 u1 W)
  have h3 : ws2.map (fun q => wget (putW ks1 u1 W) q.1) = ws2.map (fun q => some q.2) := by
    rw [← h2]
    refine List.map_congr_left fun q hq => wget_putW ?_ u1 W
    exact List.all_eq_true.mp hdis q.1 (by rw [← hk2]; exact List.mem_map.mpr ⟨q, hq, rfl⟩)
  refine J.run (sn_L_10 F) 1 [] (S' := (443, [(0, .ref 900), (1, .ref 0), (2, .ref 500), (3, .int (nI (4 * j)))], [.ref 500, .int v1], putW ks1 u1 W)) (ob := []) rfl ob_n ?_
  refine J.callW F hJ lk_L_63 im_X7_drop se_X7_drop (by decide +kernel) C2 hd2 [.int v1] ks2 hk2 rfl rfl rfl hr2 rfl h3 hn2 (fun r2 u2 hu2 hp2 => ?_)
  obtain ⟨rfl, hfin⟩ := kk v1 u1 r2 u2 hu1 hu2 hp1 hp2
  show J x 4 (ad, cells, slots) (446, [(0, .ref 900), (1, .ref 0), (2, .ref 500), (3, .int (nI (4 * j)))], [.int v1, .int v1], putW ks2 u2 (putW ks1 u1 W))
  refine J.run (sn_L_10 F) 1 [1] (S' := (773, [(0, .ref 900), (1, .ref 0), (2, .ref 500), (3, .int (nI (4 * j)))], [], putW ks2 u2 (putW ks1 u1 W))) (ob := [v1 = v1]) rfl (ob_c rfl ob_n) ?_
  exact hfin
set_option maxRecDepth 20000 in
set_option maxHeartbeats 4000000 in
theorem lw_11 {x : Cx} {nm : String} {d : Nat} (F : Fx x cL_law 4 RL nm (some .boolean) d) {ad : Nat → Nat} {cells slots : Nat} (hJ : jSx x ad) {b L : Nat} {xs : Nat → Int32} (hS : Sc x b L xs) (had : ad 900 = b) {j : Nat} (hj : 4 * j + 4 ≤ L) (hL : L ≤ 2048) {a1 : Int32} {a2 : Int32} (ha1 : xs (4 * j + 1) = a1) (ha2 : xs (4 * j + 2) = a2) {d1 d2 : Nat} {ws1 ws2 : Pw} {P1 P2 : Option Value → Pw → Prop} (C1 : Ctr mk_X6_run d1 [.ref 0, .int a1, .int a2] ws1 P1) (C2 : Ctr mk_X7_run d2 [.ref 500, .int a1, .int a2] ws2 P2) (hd1 : d1 + 1 ≤ d) (hd2 : d2 + 1 ≤ d) {W : Pw} {fs1 fs2 : List Value} (hr1 : wget ws1 0 = some (.inl (6, fs1))) (hr2 : wget ws2 500 = some (.inl (7, fs2))) (ks1 ks2 : List Nat) (hk1 : ws1.map Prod.fst = ks1) (hk2 : ws2.map Prod.fst = ks2) (hn1 : ks1.Nodup) (hn2 : ks2.Nodup) (hdis : ks2.all (fun k => nin k ks1) = true) (h1 : ws1.map (fun q => wget W q.1) = ws1.map (fun q => some q.2)) (h2 : ws2.map (fun q => wget W q.1) = ws2.map (fun q => some q.2)) (hi1 : ∀ (r : Option Value) (u : Pw), P1 r u → ∃ v : Int32, r = some (.int v))
    (kk : ∀ (v : Int32) (u1 : Pw) (r2 : Option Value) (u2 : Pw), u1.map Prod.fst = ks1 → u2.map Prod.fst = ks2 → P1 (some (.int v)) u1 → P2 r2 u2 → r2 = some (.int v) ∧ J x 4 (ad, cells, slots) (773, [(0, .ref 900), (1, .ref 0), (2, .ref 500), (3, .int (nI (4 * j)))], [], putW ks2 u2 (putW ks1 u1 W))) : J x 4 (ad, cells, slots) (451, [(0, .ref 900), (1, .ref 0), (2, .ref 500), (3, .int (nI (4 * j)))], [], W) := by
  subst ha1 ha2
  refine J.run (sn_L_11 F) 5 [] (S' := (456, [(0, .ref 900), (1, .ref 0), (2, .ref 500), (3, .int (nI (4 * j)))], [.int ((nI (4 * j)) + 1), .ref 900, .ref 0], W)) (ob := []) rfl ob_n ?_
  refine J.sld F hS had (by decide +kernel) (4 * j + 1) (sc_1 hj hL) ?_
  refine J.run (sn_L_11 F) 4 [] (S' := (461, [(0, .ref 900), (1, .ref 0), (2, .ref 500), (3, .int (nI (4 * j)))], [.int ((nI (4 * j)) + 2), .ref 900, .int (xs (4 * j + 1)), .ref 0], W)) (ob := []) rfl ob_n ?_
  refine J.sld F hS had (by decide +kernel) (4 * j + 2) (sc_2 hj hL) ?_
  refine J.callW F hJ lk_L_64 im_X6_run se_X6_run (by decide +kernel) C1 hd1 [] ks1 hk1 rfl rfl rfl hr1 rfl h1 hn1 (fun r1 u1 hu1 hp1 => ?_)
  obtain ⟨v1, rfl⟩ := hi1 r1 u1 hp1
  show J x 4 (ad, cells, slots) (465, [(0, .ref 900), (1, .ref 0), (2, .ref 500), (3, .int (nI (4 * j)))], [.int v1], putW ks1 u1 W)
  have h3 : ws2.map (fun q => wget (putW ks1 u1 W) q.1) = ws2.map (fun q => some q.2) := by
    rw [← h2]
    refine List.map_congr_left fun q hq => wget_putW ?_ u1 W
    exact List.all_eq_true.mp hdis q.1 (by rw [← hk2]; exact List.mem_map.mpr ⟨q, hq, rfl⟩)
  refine J.run (sn_L_11 F) 5 [] (S' := (470, [(0, .ref 900), (1, .ref 0), (2, .ref 500), (3, .int (nI (4 * j)))], [.int ((nI (4 * j)) + 1), .ref 900, .ref 500, .int v1], putW ks1 u1 W)) (ob := []) rfl ob_n ?_
  refine J.sld F hS had (by decide +kernel) (4 * j + 1) (sc_1 hj hL) ?_
  refine J.run (sn_L_11 F) 4 [] (S' := (475, [(0, .ref 900), (1, .ref 0), (2, .ref 500), (3, .int (nI (4 * j)))], [.int ((nI (4 * j)) + 2), .ref 900, .int (xs (4 * j + 1)), .ref 500, .int v1], putW ks1 u1 W)) (ob := []) rfl ob_n ?_
  refine J.sld F hS had (by decide +kernel) (4 * j + 2) (sc_2 hj hL) ?_
  refine J.callW F hJ lk_L_67 im_X7_run se_X7_run (by decide +kernel) C2 hd2 [.int v1] ks2 hk2 rfl rfl rfl hr2 rfl h3 hn2 (fun r2 u2 hu2 hp2 => ?_)
  obtain ⟨rfl, hfin⟩ := kk v1 u1 r2 u2 hu1 hu2 hp1 hp2
  show J x 4 (ad, cells, slots) (479, [(0, .ref 900), (1, .ref 0), (2, .ref 500), (3, .int (nI (4 * j)))], [.int v1, .int v1], putW ks2 u2 (putW ks1 u1 W))
  refine J.run (sn_L_11 F) 1 [1] (S' := (773, [(0, .ref 900), (1, .ref 0), (2, .ref 500), (3, .int (nI (4 * j)))], [], putW ks2 u2 (putW ks1 u1 W))) (ob := [v1 = v1]) rfl (ob_c rfl ob_n) ?_
  exact hfin
set_option maxRecDepth 20000 in
set_option maxHeartbeats 4000000 in
theorem lw_12 {x : Cx} {nm : String} {d : Nat} (F : Fx x cL_law 4 RL nm (some .boolean) d) {ad : Nat → Nat} {cells slots : Nat} (hJ : jSx x ad) {b L : Nat} {xs : Nat → Int32} (hS : Sc x b L xs) (had : ad 900 = b) {j : Nat} (hj : 4 * j + 4 ≤ L) (hL : L ≤ 2048) {d1 d2 : Nat} {ws1 ws2 : Pw} {P1 P2 : Option Value → Pw → Prop} (C1 : Ctr mk_X6_follow d1 [.ref 0] ws1 P1) (C2 : Ctr mk_X7_follow d2 [.ref 500] ws2 P2) (hd1 : d1 + 1 ≤ d) (hd2 : d2 + 1 ≤ d) {W : Pw} {fs1 fs2 : List Value} (hr1 : wget ws1 0 = some (.inl (6, fs1))) (hr2 : wget ws2 500 = some (.inl (7, fs2))) (ks1 ks2 : List Nat) (hk1 : ws1.map Prod.fst = ks1) (hk2 : ws2.map Prod.fst = ks2) (hn1 : ks1.Nodup) (hn2 : ks2.Nodup) (hdis : ks2.all (fun k => nin k ks1) = true) (h1 : ws1.map (fun q => wget W q.1) = ws1.map (fun q => some q.2)) (h2 : ws2.map (fun q => wget W q.1) = ws2.map (fun q => some q.2)) (hi1 : ∀ (r : Option Value) (u : Pw), P1 r u → ∃ v : Int32, r = some (.int v))
    (kk : ∀ (v : Int32) (u1 : Pw) (r2 : Option Value) (u2 : Pw), u1.map Prod.fst = ks1 → u2.map Prod.fst = ks2 → P1 (some (.int v)) u1 → P2 r2 u2 → r2 = some (.int v) ∧ J x 4 (ad, cells, slots) (773, [(0, .ref 900), (1, .ref 0), (2, .ref 500), (3, .int (nI (4 * j)))], [], putW ks2 u2 (putW ks1 u1 W))) : J x 4 (ad, cells, slots) (484, [(0, .ref 900), (1, .ref 0), (2, .ref 500), (3, .int (nI (4 * j)))], [], W) := by
  refine J.run (sn_L_12 F) 1 [] (S' := (485, [(0, .ref 900), (1, .ref 0), (2, .ref 500), (3, .int (nI (4 * j)))], [.ref 0], W)) (ob := []) rfl ob_n ?_
  refine J.callW F hJ lk_L_68 im_X6_follow se_X6_follow (by decide +kernel) C1 hd1 [] ks1 hk1 rfl rfl rfl hr1 rfl h1 hn1 (fun r1 u1 hu1 hp1 => ?_)
  obtain ⟨v1, rfl⟩ := hi1 r1 u1 hp1
  show J x 4 (ad, cells, slots) (488, [(0, .ref 900), (1, .ref 0), (2, .ref 500), (3, .int (nI (4 * j)))], [.int v1], putW ks1 u1 W)
  have h3 : ws2.map (fun q => wget (putW ks1 u1 W) q.1) = ws2.map (fun q => some q.2) := by
    rw [← h2]
    refine List.map_congr_left fun q hq => wget_putW ?_ u1 W
    exact List.all_eq_true.mp hdis q.1 (by rw [← hk2]; exact List.mem_map.mpr ⟨q, hq, rfl⟩)
  refine J.run (sn_L_12 F) 1 [] (S' := (489, [(0, .ref 900), (1, .ref 0), (2, .ref 500), (3, .int (nI (4 * j)))], [.ref 500, .int v1], putW ks1 u1 W)) (ob := []) rfl ob_n ?_
  refine J.callW F hJ lk_L_71 im_X7_follow se_X7_follow (by decide +kernel) C2 hd2 [.int v1] ks2 hk2 rfl rfl rfl hr2 rfl h3 hn2 (fun r2 u2 hu2 hp2 => ?_)
  obtain ⟨rfl, hfin⟩ := kk v1 u1 r2 u2 hu1 hu2 hp1 hp2
  show J x 4 (ad, cells, slots) (492, [(0, .ref 900), (1, .ref 0), (2, .ref 500), (3, .int (nI (4 * j)))], [.int v1, .int v1], putW ks2 u2 (putW ks1 u1 W))
  refine J.run (sn_L_12 F) 1 [1] (S' := (773, [(0, .ref 900), (1, .ref 0), (2, .ref 500), (3, .int (nI (4 * j)))], [], putW ks2 u2 (putW ks1 u1 W))) (ob := [v1 = v1]) rfl (ob_c rfl ob_n) ?_
  exact hfin
set_option maxRecDepth 20000 in
set_option maxHeartbeats 4000000 in
theorem lw_13 {x : Cx} {nm : String} {d : Nat} (F : Fx x cL_law 4 RL nm (some .boolean) d) {ad : Nat → Nat} {cells slots : Nat} (hJ : jSx x ad) {b L : Nat} {xs : Nat → Int32} (hS : Sc x b L xs) (had : ad 900 = b) {j : Nat} (hj : 4 * j + 4 ≤ L) (hL : L ≤ 2048) {a1 : Int32} (ha1 : xs (4 * j + 1) = a1) {d1 d2 : Nat} {ws1 ws2 : Pw} {P1 P2 : Option Value → Pw → Prop} (C1 : Ctr mk_X6_ever d1 [.ref 0, .int a1] ws1 P1) (C2 : Ctr mk_X7_ever d2 [.ref 500, .int a1] ws2 P2) (hd1 : d1 + 1 ≤ d) (hd2 : d2 + 1 ≤ d) {W : Pw} {fs1 fs2 : List Value} (hr1 : wget ws1 0 = some (.inl (6, fs1))) (hr2 : wget ws2 500 = some (.inl (7, fs2))) (ks1 ks2 : List Nat) (hk1 : ws1.map Prod.fst = ks1) (hk2 : ws2.map Prod.fst = ks2) (hn1 : ks1.Nodup) (hn2 : ks2.Nodup) (hdis : ks2.all (fun k => nin k ks1) = true) (h1 : ws1.map (fun q => wget W q.1) = ws1.map (fun q => some q.2)) (h2 : ws2.map (fun q => wget W q.1) = ws2.map (fun q => some q.2)) (hi1 : ∀ (r : Option Value) (u : Pw), P1 r u → ∃ v : Int32, r = some (.int v))
    (kk : ∀ (v : Int32) (u1 : Pw) (r2 : Option Value) (u2 : Pw), u1.map Prod.fst = ks1 → u2.map Prod.fst = ks2 → P1 (some (.int v)) u1 → P2 r2 u2 → r2 = some (.int v) ∧ J x 4 (ad, cells, slots) (773, [(0, .ref 900), (1, .ref 0), (2, .ref 500), (3, .int (nI (4 * j)))], [], putW ks2 u2 (putW ks1 u1 W))) : J x 4 (ad, cells, slots) (497, [(0, .ref 900), (1, .ref 0), (2, .ref 500), (3, .int (nI (4 * j)))], [], W) := by
  subst ha1
  refine J.run (sn_L_13 F) 5 [] (S' := (502, [(0, .ref 900), (1, .ref 0), (2, .ref 500), (3, .int (nI (4 * j)))], [.int ((nI (4 * j)) + 1), .ref 900, .ref 0], W)) (ob := []) rfl ob_n ?_
  refine J.sld F hS had (by decide +kernel) (4 * j + 1) (sc_1 hj hL) ?_
  refine J.callW F hJ lk_L_72 im_X6_ever se_X6_ever (by decide +kernel) C1 hd1 [] ks1 hk1 rfl rfl rfl hr1 rfl h1 hn1 (fun r1 u1 hu1 hp1 => ?_)
  obtain ⟨v1, rfl⟩ := hi1 r1 u1 hp1
  show J x 4 (ad, cells, slots) (506, [(0, .ref 900), (1, .ref 0), (2, .ref 500), (3, .int (nI (4 * j)))], [.int v1], putW ks1 u1 W)
  have h3 : ws2.map (fun q => wget (putW ks1 u1 W) q.1) = ws2.map (fun q => some q.2) := by
    rw [← h2]
    refine List.map_congr_left fun q hq => wget_putW ?_ u1 W
    exact List.all_eq_true.mp hdis q.1 (by rw [← hk2]; exact List.mem_map.mpr ⟨q, hq, rfl⟩)
  refine J.run (sn_L_13 F) 5 [] (S' := (511, [(0, .ref 900), (1, .ref 0), (2, .ref 500), (3, .int (nI (4 * j)))], [.int ((nI (4 * j)) + 1), .ref 900, .ref 500, .int v1], putW ks1 u1 W)) (ob := []) rfl ob_n ?_
  refine J.sld F hS had (by decide +kernel) (4 * j + 1) (sc_1 hj hL) ?_
  refine J.callW F hJ lk_L_75 im_X7_ever se_X7_ever (by decide +kernel) C2 hd2 [.int v1] ks2 hk2 rfl rfl rfl hr2 rfl h3 hn2 (fun r2 u2 hu2 hp2 => ?_)
  obtain ⟨rfl, hfin⟩ := kk v1 u1 r2 u2 hu1 hu2 hp1 hp2
  show J x 4 (ad, cells, slots) (515, [(0, .ref 900), (1, .ref 0), (2, .ref 500), (3, .int (nI (4 * j)))], [.int v1, .int v1], putW ks2 u2 (putW ks1 u1 W))
  refine J.run (sn_L_13 F) 1 [1] (S' := (773, [(0, .ref 900), (1, .ref 0), (2, .ref 500), (3, .int (nI (4 * j)))], [], putW ks2 u2 (putW ks1 u1 W))) (ob := [v1 = v1]) rfl (ob_c rfl ob_n) ?_
  exact hfin
set_option maxRecDepth 20000 in
set_option maxHeartbeats 4000000 in
theorem lw_14 {x : Cx} {nm : String} {d : Nat} (F : Fx x cL_law 4 RL nm (some .boolean) d) {ad : Nat → Nat} {cells slots : Nat} (hJ : jSx x ad) {b L : Nat} {xs : Nat → Int32} (hS : Sc x b L xs) (had : ad 900 = b) {j : Nat} (hj : 4 * j + 4 ≤ L) (hL : L ≤ 2048) {d1 d2 : Nat} {ws1 ws2 : Pw} {P1 P2 : Option Value → Pw → Prop} (C1 : Ctr mk_X6_voices d1 [.ref 0] ws1 P1) (C2 : Ctr mk_X7_voices d2 [.ref 500] ws2 P2) (hd1 : d1 + 1 ≤ d) (hd2 : d2 + 1 ≤ d) {W : Pw} {fs1 fs2 : List Value} (hr1 : wget ws1 0 = some (.inl (6, fs1))) (hr2 : wget ws2 500 = some (.inl (7, fs2))) (ks1 ks2 : List Nat) (hk1 : ws1.map Prod.fst = ks1) (hk2 : ws2.map Prod.fst = ks2) (hn1 : ks1.Nodup) (hn2 : ks2.Nodup) (hdis : ks2.all (fun k => nin k ks1) = true) (h1 : ws1.map (fun q => wget W q.1) = ws1.map (fun q => some q.2)) (h2 : ws2.map (fun q => wget W q.1) = ws2.map (fun q => some q.2)) (hi1 : ∀ (r : Option Value) (u : Pw), P1 r u → ∃ v : Int32, r = some (.int v))
    (kk : ∀ (v : Int32) (u1 : Pw) (r2 : Option Value) (u2 : Pw), u1.map Prod.fst = ks1 → u2.map Prod.fst = ks2 → P1 (some (.int v)) u1 → P2 r2 u2 → r2 = some (.int v) ∧ J x 4 (ad, cells, slots) (773, [(0, .ref 900), (1, .ref 0), (2, .ref 500), (3, .int (nI (4 * j)))], [], putW ks2 u2 (putW ks1 u1 W))) : J x 4 (ad, cells, slots) (520, [(0, .ref 900), (1, .ref 0), (2, .ref 500), (3, .int (nI (4 * j)))], [], W) := by
  refine J.run (sn_L_14 F) 1 [] (S' := (521, [(0, .ref 900), (1, .ref 0), (2, .ref 500), (3, .int (nI (4 * j)))], [.ref 0], W)) (ob := []) rfl ob_n ?_
  refine J.callW F hJ lk_L_76 im_X6_voices se_X6_voices (by decide +kernel) C1 hd1 [] ks1 hk1 rfl rfl rfl hr1 rfl h1 hn1 (fun r1 u1 hu1 hp1 => ?_)
  obtain ⟨v1, rfl⟩ := hi1 r1 u1 hp1
  show J x 4 (ad, cells, slots) (524, [(0, .ref 900), (1, .ref 0), (2, .ref 500), (3, .int (nI (4 * j)))], [.int v1], putW ks1 u1 W)
  have h3 : ws2.map (fun q => wget (putW ks1 u1 W) q.1) = ws2.map (fun q => some q.2) := by
    rw [← h2]
    refine List.map_congr_left fun q hq => wget_putW ?_ u1 W
    exact List.all_eq_true.mp hdis q.1 (by rw [← hk2]; exact List.mem_map.mpr ⟨q, hq, rfl⟩)
  refine J.run (sn_L_14 F) 1 [] (S' := (525, [(0, .ref 900), (1, .ref 0), (2, .ref 500), (3, .int (nI (4 * j)))], [.ref 500, .int v1], putW ks1 u1 W)) (ob := []) rfl ob_n ?_
  refine J.callW F hJ lk_L_79 im_X7_voices se_X7_voices (by decide +kernel) C2 hd2 [.int v1] ks2 hk2 rfl rfl rfl hr2 rfl h3 hn2 (fun r2 u2 hu2 hp2 => ?_)
  obtain ⟨rfl, hfin⟩ := kk v1 u1 r2 u2 hu1 hu2 hp1 hp2
  show J x 4 (ad, cells, slots) (528, [(0, .ref 900), (1, .ref 0), (2, .ref 500), (3, .int (nI (4 * j)))], [.int v1, .int v1], putW ks2 u2 (putW ks1 u1 W))
  refine J.run (sn_L_14 F) 1 [1] (S' := (773, [(0, .ref 900), (1, .ref 0), (2, .ref 500), (3, .int (nI (4 * j)))], [], putW ks2 u2 (putW ks1 u1 W))) (ob := [v1 = v1]) rfl (ob_c rfl ob_n) ?_
  exact hfin
set_option maxRecDepth 20000 in
set_option maxHeartbeats 4000000 in
theorem lw_15 {x : Cx} {nm : String} {d : Nat} (F : Fx x cL_law 4 RL nm (some .boolean) d) {ad : Nat → Nat} {cells slots : Nat} (hJ : jSx x ad) {b L : Nat} {xs : Nat → Int32} (hS : Sc x b L xs) (had : ad 900 = b) {j : Nat} (hj : 4 * j + 4 ≤ L) (hL : L ≤ 2048) {a1 : Int32} {a2 : Int32} (ha1 : xs (4 * j + 1) = a1) (ha2 : xs (4 * j + 2) = a2) {d1 d2 : Nat} {ws1 ws2 : Pw} {P1 P2 : Option Value → Pw → Prop} (C1 : Ctr mk_X6_answer d1 [.ref 0, .int a1, .int a2] ws1 P1) (C2 : Ctr mk_X7_answer d2 [.ref 500, .int a1, .int a2] ws2 P2) (hd1 : d1 + 1 ≤ d) (hd2 : d2 + 1 ≤ d) {W : Pw} {fs1 fs2 : List Value} (hr1 : wget ws1 0 = some (.inl (6, fs1))) (hr2 : wget ws2 500 = some (.inl (7, fs2))) (ks1 ks2 : List Nat) (hk1 : ws1.map Prod.fst = ks1) (hk2 : ws2.map Prod.fst = ks2) (hn1 : ks1.Nodup) (hn2 : ks2.Nodup) (hdis : ks2.all (fun k => nin k ks1) = true) (h1 : ws1.map (fun q => wget W q.1) = ws1.map (fun q => some q.2)) (h2 : ws2.map (fun q => wget W q.1) = ws2.map (fun q => some q.2)) (hi1 : ∀ (r : Option Value) (u : Pw), P1 r u → ∃ v : Int32, r = some (.int v))
    (kk : ∀ (v : Int32) (u1 : Pw) (r2 : Option Value) (u2 : Pw), u1.map Prod.fst = ks1 → u2.map Prod.fst = ks2 → P1 (some (.int v)) u1 → P2 r2 u2 → r2 = some (.int v) ∧ J x 4 (ad, cells, slots) (773, [(0, .ref 900), (1, .ref 0), (2, .ref 500), (3, .int (nI (4 * j)))], [], putW ks2 u2 (putW ks1 u1 W))) : J x 4 (ad, cells, slots) (533, [(0, .ref 900), (1, .ref 0), (2, .ref 500), (3, .int (nI (4 * j)))], [], W) := by
  subst ha1 ha2
  refine J.run (sn_L_15 F) 5 [] (S' := (538, [(0, .ref 900), (1, .ref 0), (2, .ref 500), (3, .int (nI (4 * j)))], [.int ((nI (4 * j)) + 1), .ref 900, .ref 0], W)) (ob := []) rfl ob_n ?_
  refine J.sld F hS had (by decide +kernel) (4 * j + 1) (sc_1 hj hL) ?_
  refine J.run (sn_L_15 F) 4 [] (S' := (543, [(0, .ref 900), (1, .ref 0), (2, .ref 500), (3, .int (nI (4 * j)))], [.int ((nI (4 * j)) + 2), .ref 900, .int (xs (4 * j + 1)), .ref 0], W)) (ob := []) rfl ob_n ?_
  refine J.sld F hS had (by decide +kernel) (4 * j + 2) (sc_2 hj hL) ?_
  refine J.callW F hJ lk_L_80 im_X6_answer se_X6_answer (by decide +kernel) C1 hd1 [] ks1 hk1 rfl rfl rfl hr1 rfl h1 hn1 (fun r1 u1 hu1 hp1 => ?_)
  obtain ⟨v1, rfl⟩ := hi1 r1 u1 hp1
  show J x 4 (ad, cells, slots) (547, [(0, .ref 900), (1, .ref 0), (2, .ref 500), (3, .int (nI (4 * j)))], [.int v1], putW ks1 u1 W)
  have h3 : ws2.map (fun q => wget (putW ks1 u1 W) q.1) = ws2.map (fun q => some q.2) := by
    rw [← h2]
    refine List.map_congr_left fun q hq => wget_putW ?_ u1 W
    exact List.all_eq_true.mp hdis q.1 (by rw [← hk2]; exact List.mem_map.mpr ⟨q, hq, rfl⟩)
  refine J.run (sn_L_15 F) 5 [] (S' := (552, [(0, .ref 900), (1, .ref 0), (2, .ref 500), (3, .int (nI (4 * j)))], [.int ((nI (4 * j)) + 1), .ref 900, .ref 500, .int v1], putW ks1 u1 W)) (ob := []) rfl ob_n ?_
  refine J.sld F hS had (by decide +kernel) (4 * j + 1) (sc_1 hj hL) ?_
  refine J.run (sn_L_15 F) 4 [] (S' := (557, [(0, .ref 900), (1, .ref 0), (2, .ref 500), (3, .int (nI (4 * j)))], [.int ((nI (4 * j)) + 2), .ref 900, .int (xs (4 * j + 1)), .ref 500, .int v1], putW ks1 u1 W)) (ob := []) rfl ob_n ?_
  refine J.sld F hS had (by decide +kernel) (4 * j + 2) (sc_2 hj hL) ?_
  refine J.callW F hJ lk_L_83 im_X7_answer se_X7_answer (by decide +kernel) C2 hd2 [.int v1] ks2 hk2 rfl rfl rfl hr2 rfl h3 hn2 (fun r2 u2 hu2 hp2 => ?_)
  obtain ⟨rfl, hfin⟩ := kk v1 u1 r2 u2 hu1 hu2 hp1 hp2
  show J x 4 (ad, cells, slots) (561, [(0, .ref 900), (1, .ref 0), (2, .ref 500), (3, .int (nI (4 * j)))], [.int v1, .int v1], putW ks2 u2 (putW ks1 u1 W))
  refine J.run (sn_L_15 F) 1 [1] (S' := (773, [(0, .ref 900), (1, .ref 0), (2, .ref 500), (3, .int (nI (4 * j)))], [], putW ks2 u2 (putW ks1 u1 W))) (ob := [v1 = v1]) rfl (ob_c rfl ob_n) ?_
  exact hfin
set_option maxRecDepth 20000 in
set_option maxHeartbeats 4000000 in
theorem lw_16 {x : Cx} {nm : String} {d : Nat} (F : Fx x cL_law 4 RL nm (some .boolean) d) {ad : Nat → Nat} {cells slots : Nat} (hJ : jSx x ad) {b L : Nat} {xs : Nat → Int32} (hS : Sc x b L xs) (had : ad 900 = b) {j : Nat} (hj : 4 * j + 4 ≤ L) (hL : L ≤ 2048) {a1 : Int32} (ha1 : xs (4 * j + 1) = a1) {d1 d2 : Nat} {ws1 ws2 : Pw} {P1 P2 : Option Value → Pw → Prop} (C1 : Ctr mk_X6_laws d1 [.ref 0, .int a1] ws1 P1) (C2 : Ctr mk_X7_laws d2 [.ref 500, .int a1] ws2 P2) (hd1 : d1 + 1 ≤ d) (hd2 : d2 + 1 ≤ d) {W : Pw} {fs1 fs2 : List Value} (hr1 : wget ws1 0 = some (.inl (6, fs1))) (hr2 : wget ws2 500 = some (.inl (7, fs2))) (ks1 ks2 : List Nat) (hk1 : ws1.map Prod.fst = ks1) (hk2 : ws2.map Prod.fst = ks2) (hn1 : ks1.Nodup) (hn2 : ks2.Nodup) (hdis : ks2.all (fun k => nin k ks1) = true) (h1 : ws1.map (fun q => wget W q.1) = ws1.map (fun q => some q.2)) (h2 : ws2.map (fun q => wget W q.1) = ws2.map (fun q => some q.2)) (hi1 : ∀ (r : Option Value) (u : Pw), P1 r u → ∃ v : Int32, r = some (.int v))
    (kk : ∀ (v : Int32) (u1 : Pw) (r2 : Option Value) (u2 : Pw), u1.map Prod.fst = ks1 → u2.map Prod.fst = ks2 → P1 (some (.int v)) u1 → P2 r2 u2 → r2 = some (.int v) ∧ J x 4 (ad, cells, slots) (773, [(0, .ref 900), (1, .ref 0), (2, .ref 500), (3, .int (nI (4 * j)))], [], putW ks2 u2 (putW ks1 u1 W))) : J x 4 (ad, cells, slots) (566, [(0, .ref 900), (1, .ref 0), (2, .ref 500), (3, .int (nI (4 * j)))], [], W) := by
  subst ha1
  refine J.run (sn_L_16 F) 5 [] (S' := (571, [(0, .ref 900), (1, .ref 0), (2, .ref 500), (3, .int (nI (4 * j)))], [.int ((nI (4 * j)) + 1), .ref 900, .ref 0], W)) (ob := []) rfl ob_n ?_
  refine J.sld F hS had (by decide +kernel) (4 * j + 1) (sc_1 hj hL) ?_
  refine J.callW F hJ lk_L_84 im_X6_laws se_X6_laws (by decide +kernel) C1 hd1 [] ks1 hk1 rfl rfl rfl hr1 rfl h1 hn1 (fun r1 u1 hu1 hp1 => ?_)
  obtain ⟨v1, rfl⟩ := hi1 r1 u1 hp1
  show J x 4 (ad, cells, slots) (575, [(0, .ref 900), (1, .ref 0), (2, .ref 500), (3, .int (nI (4 * j)))], [.int v1], putW ks1 u1 W)
  have h3 : ws2.map (fun q => wget (putW ks1 u1 W) q.1) = ws2.map (fun q => some q.2) := by
    rw [← h2]
    refine List.map_congr_left fun q hq => wget_putW ?_ u1 W
    exact List.all_eq_true.mp hdis q.1 (by rw [← hk2]; exact List.mem_map.mpr ⟨q, hq, rfl⟩)
  refine J.run (sn_L_16 F) 5 [] (S' := (580, [(0, .ref 900), (1, .ref 0), (2, .ref 500), (3, .int (nI (4 * j)))], [.int ((nI (4 * j)) + 1), .ref 900, .ref 500, .int v1], putW ks1 u1 W)) (ob := []) rfl ob_n ?_
  refine J.sld F hS had (by decide +kernel) (4 * j + 1) (sc_1 hj hL) ?_
  refine J.callW F hJ lk_L_87 im_X7_laws se_X7_laws (by decide +kernel) C2 hd2 [.int v1] ks2 hk2 rfl rfl rfl hr2 rfl h3 hn2 (fun r2 u2 hu2 hp2 => ?_)
  obtain ⟨rfl, hfin⟩ := kk v1 u1 r2 u2 hu1 hu2 hp1 hp2
  show J x 4 (ad, cells, slots) (584, [(0, .ref 900), (1, .ref 0), (2, .ref 500), (3, .int (nI (4 * j)))], [.int v1, .int v1], putW ks2 u2 (putW ks1 u1 W))
  refine J.run (sn_L_16 F) 1 [1] (S' := (773, [(0, .ref 900), (1, .ref 0), (2, .ref 500), (3, .int (nI (4 * j)))], [], putW ks2 u2 (putW ks1 u1 W))) (ob := [v1 = v1]) rfl (ob_c rfl ob_n) ?_
  exact hfin
set_option maxRecDepth 20000 in
set_option maxHeartbeats 4000000 in
theorem lw_17 {x : Cx} {nm : String} {d : Nat} (F : Fx x cL_law 4 RL nm (some .boolean) d) {ad : Nat → Nat} {cells slots : Nat} (hJ : jSx x ad) {b L : Nat} {xs : Nat → Int32} (hS : Sc x b L xs) (had : ad 900 = b) {j : Nat} (hj : 4 * j + 4 ≤ L) (hL : L ≤ 2048) {a1 : Int32} {a2 : Int32} (ha1 : xs (4 * j + 1) = a1) (ha2 : xs (4 * j + 2) = a2) {d1 d2 : Nat} {ws1 ws2 : Pw} {P1 P2 : Option Value → Pw → Prop} (C1 : Ctr mk_X6_premium d1 [.ref 0, .int a1, .int a2] ws1 P1) (C2 : Ctr mk_X7_premium d2 [.ref 500, .int a1, .int a2] ws2 P2) (hd1 : d1 + 1 ≤ d) (hd2 : d2 + 1 ≤ d) {W : Pw} {fs1 fs2 : List Value} (hr1 : wget ws1 0 = some (.inl (6, fs1))) (hr2 : wget ws2 500 = some (.inl (7, fs2))) (ks1 ks2 : List Nat) (hk1 : ws1.map Prod.fst = ks1) (hk2 : ws2.map Prod.fst = ks2) (hn1 : ks1.Nodup) (hn2 : ks2.Nodup) (hdis : ks2.all (fun k => nin k ks1) = true) (h1 : ws1.map (fun q => wget W q.1) = ws1.map (fun q => some q.2)) (h2 : ws2.map (fun q => wget W q.1) = ws2.map (fun q => some q.2)) (hi1 : ∀ (r : Option Value) (u : Pw), P1 r u → ∃ v : Int32, r = some (.int v))
    (kk : ∀ (v : Int32) (u1 : Pw) (r2 : Option Value) (u2 : Pw), u1.map Prod.fst = ks1 → u2.map Prod.fst = ks2 → P1 (some (.int v)) u1 → P2 r2 u2 → r2 = some (.int v) ∧ J x 4 (ad, cells, slots) (773, [(0, .ref 900), (1, .ref 0), (2, .ref 500), (3, .int (nI (4 * j)))], [], putW ks2 u2 (putW ks1 u1 W))) : J x 4 (ad, cells, slots) (589, [(0, .ref 900), (1, .ref 0), (2, .ref 500), (3, .int (nI (4 * j)))], [], W) := by
  subst ha1 ha2
  refine J.run (sn_L_17 F) 5 [] (S' := (594, [(0, .ref 900), (1, .ref 0), (2, .ref 500), (3, .int (nI (4 * j)))], [.int ((nI (4 * j)) + 1), .ref 900, .ref 0], W)) (ob := []) rfl ob_n ?_
  refine J.sld F hS had (by decide +kernel) (4 * j + 1) (sc_1 hj hL) ?_
  refine J.run (sn_L_17 F) 4 [] (S' := (599, [(0, .ref 900), (1, .ref 0), (2, .ref 500), (3, .int (nI (4 * j)))], [.int ((nI (4 * j)) + 2), .ref 900, .int (xs (4 * j + 1)), .ref 0], W)) (ob := []) rfl ob_n ?_
  refine J.sld F hS had (by decide +kernel) (4 * j + 2) (sc_2 hj hL) ?_
  refine J.callW F hJ lk_L_88 im_X6_premium se_X6_premium (by decide +kernel) C1 hd1 [] ks1 hk1 rfl rfl rfl hr1 rfl h1 hn1 (fun r1 u1 hu1 hp1 => ?_)
  obtain ⟨v1, rfl⟩ := hi1 r1 u1 hp1
  show J x 4 (ad, cells, slots) (603, [(0, .ref 900), (1, .ref 0), (2, .ref 500), (3, .int (nI (4 * j)))], [.int v1], putW ks1 u1 W)
  have h3 : ws2.map (fun q => wget (putW ks1 u1 W) q.1) = ws2.map (fun q => some q.2) := by
    rw [← h2]
    refine List.map_congr_left fun q hq => wget_putW ?_ u1 W
    exact List.all_eq_true.mp hdis q.1 (by rw [← hk2]; exact List.mem_map.mpr ⟨q, hq, rfl⟩)
  refine J.run (sn_L_17 F) 5 [] (S' := (608, [(0, .ref 900), (1, .ref 0), (2, .ref 500), (3, .int (nI (4 * j)))], [.int ((nI (4 * j)) + 1), .ref 900, .ref 500, .int v1], putW ks1 u1 W)) (ob := []) rfl ob_n ?_
  refine J.sld F hS had (by decide +kernel) (4 * j + 1) (sc_1 hj hL) ?_
  refine J.run (sn_L_17 F) 4 [] (S' := (613, [(0, .ref 900), (1, .ref 0), (2, .ref 500), (3, .int (nI (4 * j)))], [.int ((nI (4 * j)) + 2), .ref 900, .int (xs (4 * j + 1)), .ref 500, .int v1], putW ks1 u1 W)) (ob := []) rfl ob_n ?_
  refine J.sld F hS had (by decide +kernel) (4 * j + 2) (sc_2 hj hL) ?_
  refine J.callW F hJ lk_L_91 im_X7_premium se_X7_premium (by decide +kernel) C2 hd2 [.int v1] ks2 hk2 rfl rfl rfl hr2 rfl h3 hn2 (fun r2 u2 hu2 hp2 => ?_)
  obtain ⟨rfl, hfin⟩ := kk v1 u1 r2 u2 hu1 hu2 hp1 hp2
  show J x 4 (ad, cells, slots) (617, [(0, .ref 900), (1, .ref 0), (2, .ref 500), (3, .int (nI (4 * j)))], [.int v1, .int v1], putW ks2 u2 (putW ks1 u1 W))
  refine J.run (sn_L_17 F) 1 [1] (S' := (773, [(0, .ref 900), (1, .ref 0), (2, .ref 500), (3, .int (nI (4 * j)))], [], putW ks2 u2 (putW ks1 u1 W))) (ob := [v1 = v1]) rfl (ob_c rfl ob_n) ?_
  exact hfin
set_option maxRecDepth 20000 in
set_option maxHeartbeats 4000000 in
theorem lw_18 {x : Cx} {nm : String} {d : Nat} (F : Fx x cL_law 4 RL nm (some .boolean) d) {ad : Nat → Nat} {cells slots : Nat} (hJ : jSx x ad) {b L : Nat} {xs : Nat → Int32} (hS : Sc x b L xs) (had : ad 900 = b) {j : Nat} (hj : 4 * j + 4 ≤ L) (hL : L ≤ 2048) {a1 : Int32} {a2 : Int32} (ha1 : xs (4 * j + 1) = a1) (ha2 : xs (4 * j + 2) = a2) {d1 d2 : Nat} {ws1 ws2 : Pw} {P1 P2 : Option Value → Pw → Prop} (C1 : Ctr mk_X6_record d1 [.ref 0, .int a1, .int a2] ws1 P1) (C2 : Ctr mk_X7_record d2 [.ref 500, .int a1, .int a2] ws2 P2) (hd1 : d1 + 1 ≤ d) (hd2 : d2 + 1 ≤ d) {W : Pw} {fs1 fs2 : List Value} (hr1 : wget ws1 0 = some (.inl (6, fs1))) (hr2 : wget ws2 500 = some (.inl (7, fs2))) (ks1 ks2 : List Nat) (hk1 : ws1.map Prod.fst = ks1) (hk2 : ws2.map Prod.fst = ks2) (hn1 : ks1.Nodup) (hn2 : ks2.Nodup) (hdis : ks2.all (fun k => nin k ks1) = true) (h1 : ws1.map (fun q => wget W q.1) = ws1.map (fun q => some q.2)) (h2 : ws2.map (fun q => wget W q.1) = ws2.map (fun q => some q.2)) (hi1 : ∀ (r : Option Value) (u : Pw), P1 r u → ∃ v : Int32, r = some (.int v))
    (kk : ∀ (v : Int32) (u1 : Pw) (r2 : Option Value) (u2 : Pw), u1.map Prod.fst = ks1 → u2.map Prod.fst = ks2 → P1 (some (.int v)) u1 → P2 r2 u2 → r2 = some (.int v) ∧ J x 4 (ad, cells, slots) (773, [(0, .ref 900), (1, .ref 0), (2, .ref 500), (3, .int (nI (4 * j)))], [], putW ks2 u2 (putW ks1 u1 W))) : J x 4 (ad, cells, slots) (622, [(0, .ref 900), (1, .ref 0), (2, .ref 500), (3, .int (nI (4 * j)))], [], W) := by
  subst ha1 ha2
  refine J.run (sn_L_18 F) 5 [] (S' := (627, [(0, .ref 900), (1, .ref 0), (2, .ref 500), (3, .int (nI (4 * j)))], [.int ((nI (4 * j)) + 1), .ref 900, .ref 0], W)) (ob := []) rfl ob_n ?_
  refine J.sld F hS had (by decide +kernel) (4 * j + 1) (sc_1 hj hL) ?_
  refine J.run (sn_L_18 F) 4 [] (S' := (632, [(0, .ref 900), (1, .ref 0), (2, .ref 500), (3, .int (nI (4 * j)))], [.int ((nI (4 * j)) + 2), .ref 900, .int (xs (4 * j + 1)), .ref 0], W)) (ob := []) rfl ob_n ?_
  refine J.sld F hS had (by decide +kernel) (4 * j + 2) (sc_2 hj hL) ?_
  refine J.callW F hJ lk_L_92 im_X6_record se_X6_record (by decide +kernel) C1 hd1 [] ks1 hk1 rfl rfl rfl hr1 rfl h1 hn1 (fun r1 u1 hu1 hp1 => ?_)
  obtain ⟨v1, rfl⟩ := hi1 r1 u1 hp1
  show J x 4 (ad, cells, slots) (636, [(0, .ref 900), (1, .ref 0), (2, .ref 500), (3, .int (nI (4 * j)))], [.int v1], putW ks1 u1 W)
  have h3 : ws2.map (fun q => wget (putW ks1 u1 W) q.1) = ws2.map (fun q => some q.2) := by
    rw [← h2]
    refine List.map_congr_left fun q hq => wget_putW ?_ u1 W
    exact List.all_eq_true.mp hdis q.1 (by rw [← hk2]; exact List.mem_map.mpr ⟨q, hq, rfl⟩)
  refine J.run (sn_L_18 F) 5 [] (S' := (641, [(0, .ref 900), (1, .ref 0), (2, .ref 500), (3, .int (nI (4 * j)))], [.int ((nI (4 * j)) + 1), .ref 900, .ref 500, .int v1], putW ks1 u1 W)) (ob := []) rfl ob_n ?_
  refine J.sld F hS had (by decide +kernel) (4 * j + 1) (sc_1 hj hL) ?_
  refine J.run (sn_L_18 F) 4 [] (S' := (646, [(0, .ref 900), (1, .ref 0), (2, .ref 500), (3, .int (nI (4 * j)))], [.int ((nI (4 * j)) + 2), .ref 900, .int (xs (4 * j + 1)), .ref 500, .int v1], putW ks1 u1 W)) (ob := []) rfl ob_n ?_
  refine J.sld F hS had (by decide +kernel) (4 * j + 2) (sc_2 hj hL) ?_
  refine J.callW F hJ lk_L_95 im_X7_record se_X7_record (by decide +kernel) C2 hd2 [.int v1] ks2 hk2 rfl rfl rfl hr2 rfl h3 hn2 (fun r2 u2 hu2 hp2 => ?_)
  obtain ⟨rfl, hfin⟩ := kk v1 u1 r2 u2 hu1 hu2 hp1 hp2
  show J x 4 (ad, cells, slots) (650, [(0, .ref 900), (1, .ref 0), (2, .ref 500), (3, .int (nI (4 * j)))], [.int v1, .int v1], putW ks2 u2 (putW ks1 u1 W))
  refine J.run (sn_L_18 F) 1 [1] (S' := (773, [(0, .ref 900), (1, .ref 0), (2, .ref 500), (3, .int (nI (4 * j)))], [], putW ks2 u2 (putW ks1 u1 W))) (ob := [v1 = v1]) rfl (ob_c rfl ob_n) ?_
  exact hfin
set_option maxRecDepth 20000 in
set_option maxHeartbeats 4000000 in
theorem lw_19 {x : Cx} {nm : String} {d : Nat} (F : Fx x cL_law 4 RL nm (some .boolean) d) {ad : Nat → Nat} {cells slots : Nat} (hJ : jSx x ad) {b L : Nat} {xs : Nat → Int32} (hS : Sc x b L xs) (had : ad 900 = b) {j : Nat} (hj : 4 * j + 4 ≤ L) (hL : L ≤ 2048) {d1 d2 : Nat} {ws1 ws2 : Pw} {P1 P2 : Option Value → Pw → Prop} (C1 : Ctr mk_X6_tear d1 [.ref 0] ws1 P1) (C2 : Ctr mk_X7_tear d2 [.ref 500] ws2 P2) (hd1 : d1 + 1 ≤ d) (hd2 : d2 + 1 ≤ d) {W : Pw} {fs1 fs2 : List Value} (hr1 : wget ws1 0 = some (.inl (6, fs1))) (hr2 : wget ws2 500 = some (.inl (7, fs2))) (ks1 ks2 : List Nat) (hk1 : ws1.map Prod.fst = ks1) (hk2 : ws2.map Prod.fst = ks2) (hn1 : ks1.Nodup) (hn2 : ks2.Nodup) (hdis : ks2.all (fun k => nin k ks1) = true) (h1 : ws1.map (fun q => wget W q.1) = ws1.map (fun q => some q.2)) (h2 : ws2.map (fun q => wget W q.1) = ws2.map (fun q => some q.2)) (hi1 : ∀ (r : Option Value) (u : Pw), P1 r u → ∃ v : Int32, r = some (.int v))
    (kk : ∀ (v : Int32) (u1 : Pw) (r2 : Option Value) (u2 : Pw), u1.map Prod.fst = ks1 → u2.map Prod.fst = ks2 → P1 (some (.int v)) u1 → P2 r2 u2 → r2 = some (.int v) ∧ J x 4 (ad, cells, slots) (773, [(0, .ref 900), (1, .ref 0), (2, .ref 500), (3, .int (nI (4 * j)))], [], putW ks2 u2 (putW ks1 u1 W))) : J x 4 (ad, cells, slots) (655, [(0, .ref 900), (1, .ref 0), (2, .ref 500), (3, .int (nI (4 * j)))], [], W) := by
  refine J.run (sn_L_19 F) 1 [] (S' := (656, [(0, .ref 900), (1, .ref 0), (2, .ref 500), (3, .int (nI (4 * j)))], [.ref 0], W)) (ob := []) rfl ob_n ?_
  refine J.callW F hJ lk_L_96 im_X6_tear se_X6_tear (by decide +kernel) C1 hd1 [] ks1 hk1 rfl rfl rfl hr1 rfl h1 hn1 (fun r1 u1 hu1 hp1 => ?_)
  obtain ⟨v1, rfl⟩ := hi1 r1 u1 hp1
  show J x 4 (ad, cells, slots) (659, [(0, .ref 900), (1, .ref 0), (2, .ref 500), (3, .int (nI (4 * j)))], [.int v1], putW ks1 u1 W)
  have h3 : ws2.map (fun q => wget (putW ks1 u1 W) q.1) = ws2.map (fun q => some q.2) := by
    rw [← h2]
    refine List.map_congr_left fun q hq => wget_putW ?_ u1 W
    exact List.all_eq_true.mp hdis q.1 (by rw [← hk2]; exact List.mem_map.mpr ⟨q, hq, rfl⟩)
  refine J.run (sn_L_19 F) 1 [] (S' := (660, [(0, .ref 900), (1, .ref 0), (2, .ref 500), (3, .int (nI (4 * j)))], [.ref 500, .int v1], putW ks1 u1 W)) (ob := []) rfl ob_n ?_
  refine J.callW F hJ lk_L_99 im_X7_tear se_X7_tear (by decide +kernel) C2 hd2 [.int v1] ks2 hk2 rfl rfl rfl hr2 rfl h3 hn2 (fun r2 u2 hu2 hp2 => ?_)
  obtain ⟨rfl, hfin⟩ := kk v1 u1 r2 u2 hu1 hu2 hp1 hp2
  show J x 4 (ad, cells, slots) (663, [(0, .ref 900), (1, .ref 0), (2, .ref 500), (3, .int (nI (4 * j)))], [.int v1, .int v1], putW ks2 u2 (putW ks1 u1 W))
  refine J.run (sn_L_19 F) 1 [1] (S' := (773, [(0, .ref 900), (1, .ref 0), (2, .ref 500), (3, .int (nI (4 * j)))], [], putW ks2 u2 (putW ks1 u1 W))) (ob := [v1 = v1]) rfl (ob_c rfl ob_n) ?_
  exact hfin
set_option maxRecDepth 20000 in
set_option maxHeartbeats 4000000 in
theorem lw_20 {x : Cx} {nm : String} {d : Nat} (F : Fx x cL_law 4 RL nm (some .boolean) d) {ad : Nat → Nat} {cells slots : Nat} (hJ : jSx x ad) {b L : Nat} {xs : Nat → Int32} (hS : Sc x b L xs) (had : ad 900 = b) {j : Nat} (hj : 4 * j + 4 ≤ L) (hL : L ≤ 2048) {d1 d2 : Nat} {ws1 ws2 : Pw} {P1 P2 : Option Value → Pw → Prop} (C1 : Ctr mk_X6_fits d1 [.ref 0] ws1 P1) (C2 : Ctr mk_X7_fits d2 [.ref 500] ws2 P2) (hd1 : d1 + 1 ≤ d) (hd2 : d2 + 1 ≤ d) {W : Pw} {fs1 fs2 : List Value} (hr1 : wget ws1 0 = some (.inl (6, fs1))) (hr2 : wget ws2 500 = some (.inl (7, fs2))) (ks1 ks2 : List Nat) (hk1 : ws1.map Prod.fst = ks1) (hk2 : ws2.map Prod.fst = ks2) (hn1 : ks1.Nodup) (hn2 : ks2.Nodup) (hdis : ks2.all (fun k => nin k ks1) = true) (h1 : ws1.map (fun q => wget W q.1) = ws1.map (fun q => some q.2)) (h2 : ws2.map (fun q => wget W q.1) = ws2.map (fun q => some q.2)) (hi1 : ∀ (r : Option Value) (u : Pw), P1 r u → ∃ v : Int32, r = some (.int v))
    (kk : ∀ (v : Int32) (u1 : Pw) (r2 : Option Value) (u2 : Pw), u1.map Prod.fst = ks1 → u2.map Prod.fst = ks2 → P1 (some (.int v)) u1 → P2 r2 u2 → r2 = some (.int v) ∧ J x 4 (ad, cells, slots) (773, [(0, .ref 900), (1, .ref 0), (2, .ref 500), (3, .int (nI (4 * j)))], [], putW ks2 u2 (putW ks1 u1 W))) : J x 4 (ad, cells, slots) (668, [(0, .ref 900), (1, .ref 0), (2, .ref 500), (3, .int (nI (4 * j)))], [], W) := by
  refine J.run (sn_L_20 F) 1 [] (S' := (669, [(0, .ref 900), (1, .ref 0), (2, .ref 500), (3, .int (nI (4 * j)))], [.ref 0], W)) (ob := []) rfl ob_n ?_
  refine J.callW F hJ lk_L_100 im_X6_fits se_X6_fits (by decide +kernel) C1 hd1 [] ks1 hk1 rfl rfl rfl hr1 rfl h1 hn1 (fun r1 u1 hu1 hp1 => ?_)
  obtain ⟨v1, rfl⟩ := hi1 r1 u1 hp1
  show J x 4 (ad, cells, slots) (672, [(0, .ref 900), (1, .ref 0), (2, .ref 500), (3, .int (nI (4 * j)))], [.int v1], putW ks1 u1 W)
  have h3 : ws2.map (fun q => wget (putW ks1 u1 W) q.1) = ws2.map (fun q => some q.2) := by
    rw [← h2]
    refine List.map_congr_left fun q hq => wget_putW ?_ u1 W
    exact List.all_eq_true.mp hdis q.1 (by rw [← hk2]; exact List.mem_map.mpr ⟨q, hq, rfl⟩)
  refine J.run (sn_L_20 F) 1 [] (S' := (673, [(0, .ref 900), (1, .ref 0), (2, .ref 500), (3, .int (nI (4 * j)))], [.ref 500, .int v1], putW ks1 u1 W)) (ob := []) rfl ob_n ?_
  refine J.callW F hJ lk_L_103 im_X7_fits se_X7_fits (by decide +kernel) C2 hd2 [.int v1] ks2 hk2 rfl rfl rfl hr2 rfl h3 hn2 (fun r2 u2 hu2 hp2 => ?_)
  obtain ⟨rfl, hfin⟩ := kk v1 u1 r2 u2 hu1 hu2 hp1 hp2
  show J x 4 (ad, cells, slots) (676, [(0, .ref 900), (1, .ref 0), (2, .ref 500), (3, .int (nI (4 * j)))], [.int v1, .int v1], putW ks2 u2 (putW ks1 u1 W))
  refine J.run (sn_L_20 F) 1 [1] (S' := (773, [(0, .ref 900), (1, .ref 0), (2, .ref 500), (3, .int (nI (4 * j)))], [], putW ks2 u2 (putW ks1 u1 W))) (ob := [v1 = v1]) rfl (ob_c rfl ob_n) ?_
  exact hfin
set_option maxRecDepth 20000 in
set_option maxHeartbeats 4000000 in
theorem lw_21 {x : Cx} {nm : String} {d : Nat} (F : Fx x cL_law 4 RL nm (some .boolean) d) {ad : Nat → Nat} {cells slots : Nat} (hJ : jSx x ad) {b L : Nat} {xs : Nat → Int32} (hS : Sc x b L xs) (had : ad 900 = b) {j : Nat} (hj : 4 * j + 4 ≤ L) (hL : L ≤ 2048) {a1 : Int32} (ha1 : xs (4 * j + 1) = a1) {d1 d2 : Nat} {ws1 ws2 : Pw} {P1 P2 : Option Value → Pw → Prop} (C1 : Ctr mk_X6_sure d1 [.ref 0, .int a1] ws1 P1) (C2 : Ctr mk_X7_sure d2 [.ref 500, .int a1] ws2 P2) (hd1 : d1 + 1 ≤ d) (hd2 : d2 + 1 ≤ d) {W : Pw} {fs1 fs2 : List Value} (hr1 : wget ws1 0 = some (.inl (6, fs1))) (hr2 : wget ws2 500 = some (.inl (7, fs2))) (ks1 ks2 : List Nat) (hk1 : ws1.map Prod.fst = ks1) (hk2 : ws2.map Prod.fst = ks2) (hn1 : ks1.Nodup) (hn2 : ks2.Nodup) (hdis : ks2.all (fun k => nin k ks1) = true) (h1 : ws1.map (fun q => wget W q.1) = ws1.map (fun q => some q.2)) (h2 : ws2.map (fun q => wget W q.1) = ws2.map (fun q => some q.2)) (hi1 : ∀ (r : Option Value) (u : Pw), P1 r u → ∃ v : Int32, r = some (.int v))
    (kk : ∀ (v : Int32) (u1 : Pw) (r2 : Option Value) (u2 : Pw), u1.map Prod.fst = ks1 → u2.map Prod.fst = ks2 → P1 (some (.int v)) u1 → P2 r2 u2 → r2 = some (.int v) ∧ J x 4 (ad, cells, slots) (773, [(0, .ref 900), (1, .ref 0), (2, .ref 500), (3, .int (nI (4 * j)))], [], putW ks2 u2 (putW ks1 u1 W))) : J x 4 (ad, cells, slots) (681, [(0, .ref 900), (1, .ref 0), (2, .ref 500), (3, .int (nI (4 * j)))], [], W) := by
  subst ha1
  refine J.run (sn_L_21 F) 5 [] (S' := (686, [(0, .ref 900), (1, .ref 0), (2, .ref 500), (3, .int (nI (4 * j)))], [.int ((nI (4 * j)) + 1), .ref 900, .ref 0], W)) (ob := []) rfl ob_n ?_
  refine J.sld F hS had (by decide +kernel) (4 * j + 1) (sc_1 hj hL) ?_
  refine J.callW F hJ lk_L_104 im_X6_sure se_X6_sure (by decide +kernel) C1 hd1 [] ks1 hk1 rfl rfl rfl hr1 rfl h1 hn1 (fun r1 u1 hu1 hp1 => ?_)
  obtain ⟨v1, rfl⟩ := hi1 r1 u1 hp1
  show J x 4 (ad, cells, slots) (690, [(0, .ref 900), (1, .ref 0), (2, .ref 500), (3, .int (nI (4 * j)))], [.int v1], putW ks1 u1 W)
  have h3 : ws2.map (fun q => wget (putW ks1 u1 W) q.1) = ws2.map (fun q => some q.2) := by
    rw [← h2]
    refine List.map_congr_left fun q hq => wget_putW ?_ u1 W
    exact List.all_eq_true.mp hdis q.1 (by rw [← hk2]; exact List.mem_map.mpr ⟨q, hq, rfl⟩)
  refine J.run (sn_L_21 F) 5 [] (S' := (695, [(0, .ref 900), (1, .ref 0), (2, .ref 500), (3, .int (nI (4 * j)))], [.int ((nI (4 * j)) + 1), .ref 900, .ref 500, .int v1], putW ks1 u1 W)) (ob := []) rfl ob_n ?_
  refine J.sld F hS had (by decide +kernel) (4 * j + 1) (sc_1 hj hL) ?_
  refine J.callW F hJ lk_L_107 im_X7_sure se_X7_sure (by decide +kernel) C2 hd2 [.int v1] ks2 hk2 rfl rfl rfl hr2 rfl h3 hn2 (fun r2 u2 hu2 hp2 => ?_)
  obtain ⟨rfl, hfin⟩ := kk v1 u1 r2 u2 hu1 hu2 hp1 hp2
  show J x 4 (ad, cells, slots) (699, [(0, .ref 900), (1, .ref 0), (2, .ref 500), (3, .int (nI (4 * j)))], [.int v1, .int v1], putW ks2 u2 (putW ks1 u1 W))
  refine J.run (sn_L_21 F) 1 [1] (S' := (773, [(0, .ref 900), (1, .ref 0), (2, .ref 500), (3, .int (nI (4 * j)))], [], putW ks2 u2 (putW ks1 u1 W))) (ob := [v1 = v1]) rfl (ob_c rfl ob_n) ?_
  exact hfin
set_option maxRecDepth 20000 in
set_option maxHeartbeats 4000000 in
theorem lw_22 {x : Cx} {nm : String} {d : Nat} (F : Fx x cL_law 4 RL nm (some .boolean) d) {ad : Nat → Nat} {cells slots : Nat} (hJ : jSx x ad) {b L : Nat} {xs : Nat → Int32} (hS : Sc x b L xs) (had : ad 900 = b) {j : Nat} (hj : 4 * j + 4 ≤ L) (hL : L ≤ 2048) {a1 : Int32} (ha1 : xs (4 * j + 1) = a1) {d1 d2 : Nat} {ws1 ws2 : Pw} {P1 P2 : Option Value → Pw → Prop} (C1 : Ctr mk_X6_seed d1 [.ref 0, .int a1] ws1 P1) (C2 : Ctr mk_X7_seed d2 [.ref 500, .int a1] ws2 P2) (hd1 : d1 + 1 ≤ d) (hd2 : d2 + 1 ≤ d) {W : Pw} {fs1 fs2 : List Value} (hr1 : wget ws1 0 = some (.inl (6, fs1))) (hr2 : wget ws2 500 = some (.inl (7, fs2))) (ks1 ks2 : List Nat) (hk1 : ws1.map Prod.fst = ks1) (hk2 : ws2.map Prod.fst = ks2) (hn1 : ks1.Nodup) (hn2 : ks2.Nodup) (hdis : ks2.all (fun k => nin k ks1) = true) (h1 : ws1.map (fun q => wget W q.1) = ws1.map (fun q => some q.2)) (h2 : ws2.map (fun q => wget W q.1) = ws2.map (fun q => some q.2)) (hi1 : ∀ (r : Option Value) (u : Pw), P1 r u → ∃ v : Int32, r = some (.int v))
    (kk : ∀ (v : Int32) (u1 : Pw) (r2 : Option Value) (u2 : Pw), u1.map Prod.fst = ks1 → u2.map Prod.fst = ks2 → P1 (some (.int v)) u1 → P2 r2 u2 → r2 = some (.int v) ∧ J x 4 (ad, cells, slots) (773, [(0, .ref 900), (1, .ref 0), (2, .ref 500), (3, .int (nI (4 * j)))], [], putW ks2 u2 (putW ks1 u1 W))) : J x 4 (ad, cells, slots) (704, [(0, .ref 900), (1, .ref 0), (2, .ref 500), (3, .int (nI (4 * j)))], [], W) := by
  subst ha1
  refine J.run (sn_L_22 F) 5 [] (S' := (709, [(0, .ref 900), (1, .ref 0), (2, .ref 500), (3, .int (nI (4 * j)))], [.int ((nI (4 * j)) + 1), .ref 900, .ref 0], W)) (ob := []) rfl ob_n ?_
  refine J.sld F hS had (by decide +kernel) (4 * j + 1) (sc_1 hj hL) ?_
  refine J.callW F hJ lk_L_108 im_X6_seed se_X6_seed (by decide +kernel) C1 hd1 [] ks1 hk1 rfl rfl rfl hr1 rfl h1 hn1 (fun r1 u1 hu1 hp1 => ?_)
  obtain ⟨v1, rfl⟩ := hi1 r1 u1 hp1
  show J x 4 (ad, cells, slots) (713, [(0, .ref 900), (1, .ref 0), (2, .ref 500), (3, .int (nI (4 * j)))], [.int v1], putW ks1 u1 W)
  have h3 : ws2.map (fun q => wget (putW ks1 u1 W) q.1) = ws2.map (fun q => some q.2) := by
    rw [← h2]
    refine List.map_congr_left fun q hq => wget_putW ?_ u1 W
    exact List.all_eq_true.mp hdis q.1 (by rw [← hk2]; exact List.mem_map.mpr ⟨q, hq, rfl⟩)
  refine J.run (sn_L_22 F) 5 [] (S' := (718, [(0, .ref 900), (1, .ref 0), (2, .ref 500), (3, .int (nI (4 * j)))], [.int ((nI (4 * j)) + 1), .ref 900, .ref 500, .int v1], putW ks1 u1 W)) (ob := []) rfl ob_n ?_
  refine J.sld F hS had (by decide +kernel) (4 * j + 1) (sc_1 hj hL) ?_
  refine J.callW F hJ lk_L_111 im_X7_seed se_X7_seed (by decide +kernel) C2 hd2 [.int v1] ks2 hk2 rfl rfl rfl hr2 rfl h3 hn2 (fun r2 u2 hu2 hp2 => ?_)
  obtain ⟨rfl, hfin⟩ := kk v1 u1 r2 u2 hu1 hu2 hp1 hp2
  show J x 4 (ad, cells, slots) (722, [(0, .ref 900), (1, .ref 0), (2, .ref 500), (3, .int (nI (4 * j)))], [.int v1, .int v1], putW ks2 u2 (putW ks1 u1 W))
  refine J.run (sn_L_22 F) 1 [1] (S' := (773, [(0, .ref 900), (1, .ref 0), (2, .ref 500), (3, .int (nI (4 * j)))], [], putW ks2 u2 (putW ks1 u1 W))) (ob := [v1 = v1]) rfl (ob_c rfl ob_n) ?_
  exact hfin
set_option maxRecDepth 20000 in
set_option maxHeartbeats 4000000 in
theorem lw_23 {x : Cx} {nm : String} {d : Nat} (F : Fx x cL_law 4 RL nm (some .boolean) d) {ad : Nat → Nat} {cells slots : Nat} (hJ : jSx x ad) {b L : Nat} {xs : Nat → Int32} (hS : Sc x b L xs) (had : ad 900 = b) {j : Nat} (hj : 4 * j + 4 ≤ L) (hL : L ≤ 2048) {a1 : Int32} (ha1 : xs (4 * j + 1) = a1) {d1 d2 : Nat} {ws1 ws2 : Pw} {P1 P2 : Option Value → Pw → Prop} (C1 : Ctr mk_X6_keep d1 [.ref 0, .int a1] ws1 P1) (C2 : Ctr mk_X7_keep d2 [.ref 500, .int a1] ws2 P2) (hd1 : d1 + 1 ≤ d) (hd2 : d2 + 1 ≤ d) {W : Pw} {fs1 fs2 : List Value} (hr1 : wget ws1 0 = some (.inl (6, fs1))) (hr2 : wget ws2 500 = some (.inl (7, fs2))) (ks1 ks2 : List Nat) (hk1 : ws1.map Prod.fst = ks1) (hk2 : ws2.map Prod.fst = ks2) (hn1 : ks1.Nodup) (hn2 : ks2.Nodup) (hdis : ks2.all (fun k => nin k ks1) = true) (h1 : ws1.map (fun q => wget W q.1) = ws1.map (fun q => some q.2)) (h2 : ws2.map (fun q => wget W q.1) = ws2.map (fun q => some q.2)) (hi1 : ∀ (r : Option Value) (u : Pw), P1 r u → ∃ v : Int32, r = some (.int v))
    (kk : ∀ (v : Int32) (u1 : Pw) (r2 : Option Value) (u2 : Pw), u1.map Prod.fst = ks1 → u2.map Prod.fst = ks2 → P1 (some (.int v)) u1 → P2 r2 u2 → r2 = some (.int v) ∧ J x 4 (ad, cells, slots) (773, [(0, .ref 900), (1, .ref 0), (2, .ref 500), (3, .int (nI (4 * j)))], [], putW ks2 u2 (putW ks1 u1 W))) : J x 4 (ad, cells, slots) (727, [(0, .ref 900), (1, .ref 0), (2, .ref 500), (3, .int (nI (4 * j)))], [], W) := by
  subst ha1
  refine J.run (sn_L_23 F) 5 [] (S' := (732, [(0, .ref 900), (1, .ref 0), (2, .ref 500), (3, .int (nI (4 * j)))], [.int ((nI (4 * j)) + 1), .ref 900, .ref 0], W)) (ob := []) rfl ob_n ?_
  refine J.sld F hS had (by decide +kernel) (4 * j + 1) (sc_1 hj hL) ?_
  refine J.callW F hJ lk_L_112 im_X6_keep se_X6_keep (by decide +kernel) C1 hd1 [] ks1 hk1 rfl rfl rfl hr1 rfl h1 hn1 (fun r1 u1 hu1 hp1 => ?_)
  obtain ⟨v1, rfl⟩ := hi1 r1 u1 hp1
  show J x 4 (ad, cells, slots) (736, [(0, .ref 900), (1, .ref 0), (2, .ref 500), (3, .int (nI (4 * j)))], [.int v1], putW ks1 u1 W)
  have h3 : ws2.map (fun q => wget (putW ks1 u1 W) q.1) = ws2.map (fun q => some q.2) := by
    rw [← h2]
    refine List.map_congr_left fun q hq => wget_putW ?_ u1 W
    exact List.all_eq_true.mp hdis q.1 (by rw [← hk2]; exact List.mem_map.mpr ⟨q, hq, rfl⟩)
  refine J.run (sn_L_23 F) 5 [] (S' := (741, [(0, .ref 900), (1, .ref 0), (2, .ref 500), (3, .int (nI (4 * j)))], [.int ((nI (4 * j)) + 1), .ref 900, .ref 500, .int v1], putW ks1 u1 W)) (ob := []) rfl ob_n ?_
  refine J.sld F hS had (by decide +kernel) (4 * j + 1) (sc_1 hj hL) ?_
  refine J.callW F hJ lk_L_115 im_X7_keep se_X7_keep (by decide +kernel) C2 hd2 [.int v1] ks2 hk2 rfl rfl rfl hr2 rfl h3 hn2 (fun r2 u2 hu2 hp2 => ?_)
  obtain ⟨rfl, hfin⟩ := kk v1 u1 r2 u2 hu1 hu2 hp1 hp2
  show J x 4 (ad, cells, slots) (745, [(0, .ref 900), (1, .ref 0), (2, .ref 500), (3, .int (nI (4 * j)))], [.int v1, .int v1], putW ks2 u2 (putW ks1 u1 W))
  refine J.run (sn_L_23 F) 1 [1] (S' := (773, [(0, .ref 900), (1, .ref 0), (2, .ref 500), (3, .int (nI (4 * j)))], [], putW ks2 u2 (putW ks1 u1 W))) (ob := [v1 = v1]) rfl (ob_c rfl ob_n) ?_
  exact hfin
set_option maxRecDepth 20000 in
set_option maxHeartbeats 4000000 in
theorem lw_24 {x : Cx} {nm : String} {d : Nat} (F : Fx x cL_law 4 RL nm (some .boolean) d) {ad : Nat → Nat} {cells slots : Nat} (hJ : jSx x ad) {b L : Nat} {xs : Nat → Int32} (hS : Sc x b L xs) (had : ad 900 = b) {j : Nat} (hj : 4 * j + 4 ≤ L) (hL : L ≤ 2048) {a1 : Int32} (ha1 : xs (4 * j + 1) = a1) {d1 d2 : Nat} {ws1 ws2 : Pw} {P1 P2 : Option Value → Pw → Prop} (C1 : Ctr mk_X6_goBack d1 [.ref 0, .int a1] ws1 P1) (C2 : Ctr mk_X7_goBack d2 [.ref 500, .int a1] ws2 P2) (hd1 : d1 + 1 ≤ d) (hd2 : d2 + 1 ≤ d) {W : Pw} {fs1 fs2 : List Value} (hr1 : wget ws1 0 = some (.inl (6, fs1))) (hr2 : wget ws2 500 = some (.inl (7, fs2))) (ks1 ks2 : List Nat) (hk1 : ws1.map Prod.fst = ks1) (hk2 : ws2.map Prod.fst = ks2) (hn1 : ks1.Nodup) (hn2 : ks2.Nodup) (hdis : ks2.all (fun k => nin k ks1) = true) (h1 : ws1.map (fun q => wget W q.1) = ws1.map (fun q => some q.2)) (h2 : ws2.map (fun q => wget W q.1) = ws2.map (fun q => some q.2)) (hi1 : ∀ (r : Option Value) (u : Pw), P1 r u → ∃ v : Int32, r = some (.int v))
    (kk : ∀ (v : Int32) (u1 : Pw) (r2 : Option Value) (u2 : Pw), u1.map Prod.fst = ks1 → u2.map Prod.fst = ks2 → P1 (some (.int v)) u1 → P2 r2 u2 → r2 = some (.int v) ∧ J x 4 (ad, cells, slots) (773, [(0, .ref 900), (1, .ref 0), (2, .ref 500), (3, .int (nI (4 * j)))], [], putW ks2 u2 (putW ks1 u1 W))) : J x 4 (ad, cells, slots) (750, [(0, .ref 900), (1, .ref 0), (2, .ref 500), (3, .int (nI (4 * j)))], [], W) := by
  subst ha1
  refine J.run (sn_L_24 F) 5 [] (S' := (755, [(0, .ref 900), (1, .ref 0), (2, .ref 500), (3, .int (nI (4 * j)))], [.int ((nI (4 * j)) + 1), .ref 900, .ref 0], W)) (ob := []) rfl ob_n ?_
  refine J.sld F hS had (by decide +kernel) (4 * j + 1) (sc_1 hj hL) ?_
  refine J.callW F hJ lk_L_116 im_X6_goBack se_X6_goBack (by decide +kernel) C1 hd1 [] ks1 hk1 rfl rfl rfl hr1 rfl h1 hn1 (fun r1 u1 hu1 hp1 => ?_)
  obtain ⟨v1, rfl⟩ := hi1 r1 u1 hp1
  show J x 4 (ad, cells, slots) (759, [(0, .ref 900), (1, .ref 0), (2, .ref 500), (3, .int (nI (4 * j)))], [.int v1], putW ks1 u1 W)
  have h3 : ws2.map (fun q => wget (putW ks1 u1 W) q.1) = ws2.map (fun q => some q.2) := by
    rw [← h2]
    refine List.map_congr_left fun q hq => wget_putW ?_ u1 W
    exact List.all_eq_true.mp hdis q.1 (by rw [← hk2]; exact List.mem_map.mpr ⟨q, hq, rfl⟩)
  refine J.run (sn_L_24 F) 5 [] (S' := (764, [(0, .ref 900), (1, .ref 0), (2, .ref 500), (3, .int (nI (4 * j)))], [.int ((nI (4 * j)) + 1), .ref 900, .ref 500, .int v1], putW ks1 u1 W)) (ob := []) rfl ob_n ?_
  refine J.sld F hS had (by decide +kernel) (4 * j + 1) (sc_1 hj hL) ?_
  refine J.callW F hJ lk_L_119 im_X7_goBack se_X7_goBack (by decide +kernel) C2 hd2 [.int v1] ks2 hk2 rfl rfl rfl hr2 rfl h3 hn2 (fun r2 u2 hu2 hp2 => ?_)
  obtain ⟨rfl, hfin⟩ := kk v1 u1 r2 u2 hu1 hu2 hp1 hp2
  show J x 4 (ad, cells, slots) (768, [(0, .ref 900), (1, .ref 0), (2, .ref 500), (3, .int (nI (4 * j)))], [.int v1, .int v1], putW ks2 u2 (putW ks1 u1 W))
  refine J.run (sn_L_24 F) 1 [1] (S' := (773, [(0, .ref 900), (1, .ref 0), (2, .ref 500), (3, .int (nI (4 * j)))], [], putW ks2 u2 (putW ks1 u1 W))) (ob := [v1 = v1]) rfl (ob_c rfl ob_n) ?_
  exact hfin
