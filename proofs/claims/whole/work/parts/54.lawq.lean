set_option maxHeartbeats 4000000 in
set_option maxRecDepth 100000 in
theorem law_value {p : Program} {l : Launch} {e : Env} {s : State} {m : MethodId} {below : List Frame} {meth : Method} {c : Code} {b L : Nat} {xs : Nat → Int32} (hL : L ≤ 2049) (C0 : lw_At p s m meth c b L xs) (hl9 : l.stackTraces = false) {dC : Nat → ClassId} {dI : Nat → Nat → Nat} {cI cZ cA cJ : ClassId} {sa : Nat → Nat} (hK : va_K (dC, dI) vwCl (GJ cI cZ cA cJ) s) (hE : EX sa (fun q : Nat => s.heap.size ≤ q) s s.heap) {a ad : Nat → Nat} {o i : Nat} (hi : i + 4 ≤ L) {cells slots : Nat} (hcs : cells + 1 ≤ 601024 ∧ slots + 6 ≤ 7293000) (nx : LNx p l e s m below meth c b dC dI cI cZ cA cJ a ad o i (cells + 1) (slots + 6)) (n am rf mk : Nat) (wv lo : Nat → Int32) (cf tf : Nat → Nat) (T : Nat → Nat → Int32) (mt : Nat → Nat) (im : Nat → Int32) (th : Nat) (vs : Nat → Int32) (nr : Nat → Nat) (fo : Nat → Int64) (hI : LInv n am rf mk wv lo cf tf T mt im) (H : Heap) (locs : List Loc) (hP : va_P (dC, dI) vwCl ((XW cI cZ cA a n am rf mk wv lo cf tf T mt im ++ OW o cJ fo) ++ MW cI cZ ad th n wv lo cf tf vs nr) H) (hD : va_D (fun q : Nat => s.heap.size ≤ q) ((XW cI cZ cA a n am rf mk wv lo cf tf T mt im ++ OW o cJ fo) ++ MW cI cZ ad th n wv lo cf tf vs nr)) (hS : va_S (fun q : Nat => s.heap.size ≤ q) s.heap H locs) (ls : Array Slot) (hl : lv_has ls 7 [(0, .ref b), (1, .ref (a 0)), (2, .ref (ad 0)), (3, .ref o), (4, .int (nI i))]) : W p l e room_1 s m #[Value.ref b] below meth c H locs cells slots (lw_Z below #[Value.ref b] s) (F0 m 358 ls []) := by
  obtain ⟨hx, hb, hr, hml, hown, hts0, hX, hbl, hlocks, hgv⟩ := C0
  have hts : ∀ w ∈ wsL_law, w.before #[Value.ref b] s = true := fun w h => hts0 w (wsL_law_in w h)
  have hown : s.vm.findClass RL = some m.cls := hown
  have hA : ∀ q : Nat, s.heap.size ≤ q → (fun q : Nat => s.heap.size ≤ q) q := fun _ h => h
  have hbA : ¬ (fun q : Nat => s.heap.size ≤ q) b := Nat.not_le.mpr hbl
  have hKg := hK.sub (tys' := GT cI cZ cA) [0, 1, 2] rfl
  obtain ⟨hG, hT, hM, hsm⟩ := id hI
  obtain ⟨hn4, hwr, hc, htt, hlo, hz0⟩ := id hG
  have hc0 : cells + 0 ≤ room_1.cells ∧ slots + 0 ≤ room_1.slots := ⟨by show cells + 0 ≤ 601024; omega, by show slots + 0 ≤ 7293000; omega⟩
  have hc1 : cells + 1 ≤ room_1.cells ∧ slots + 6 ≤ room_1.slots := hcs
  have hc2 : cells + 1 + 0 ≤ room_1.cells ∧ slots + 6 + 0 ≤ room_1.slots := hcs
  rcases ask_or (n := n) (by omega) (xs (i + 1)) (xs (i + 2)) with hB | ⟨j, d, hj, hd, hv1, hv2⟩
  · refine lv_aload_n hx hb dL_law_358 rfl (lv_at hl 1 rfl) ?_
    refine lv_aload_n hx hb dL_law_359 rfl (lv_at hl 0 rfl) ?_
    refine lv_iload hx hb dL_law_360 (lv_at hl 4 rfl) ?_
    refine lv_iconst (v := 1) hx hb dL_law_362 (by decide) ?_
    refine lv_iadd hx hb dL_law_363 ?_
    refine ga_is (y := nI (i + 1)) (nI_add i 1) ?_
    refine ga_sld hx hb hX hbl hbA hS (i + 1) (by omega) hL dL_law_364 ?_
    refine lv_aload_n hx hb dL_law_365 rfl (lv_at hl 0 rfl) ?_
    refine lv_iload hx hb dL_law_366 (lv_at hl 4 rfl) ?_
    refine lv_iconst (v := 2) hx hb dL_law_368 (by decide) ?_
    refine lv_iadd hx hb dL_law_369 ?_
    refine ga_is (y := nI (i + 2)) (nI_add i 2) ?_
    refine ga_sld hx hb hX hbl hbA hS (i + 2) (by omega) hL dL_law_370 ?_
    refine lv_aload_n hx hb dL_law_371 rfl (lv_at hl 3 rfl) ?_
    refine va_calli (A0 := (fun q : Nat => s.heap.size ≤ q)) (H0 := s.heap) (vx_runSW (As := [.ref (a 0), .int (xs (i + 1)), .int (xs (i + 2)), .ref o]) (rest := []) ⟨hx, hb, hml, hown, hts⟩ (nL_value l hl9 dC dI cI cZ cA cJ a o fo H.size sa n am rf mk wv lo cf tf T mt im (xs (i + 1)) (xs (i + 2)) hB) (vx_cwSW 4 hts gL_law_L_value rfl rfl rfl (by decide +kernel) ⟨Nat.le_of_ble_eq_true rfl, Nat.le_of_ble_eq_true rfl⟩) ⟨blindTP, preTP (pL hP) hK ((hE.kept hS.2.1).narrow (fun _ h => h.elim))⟩ rfl rfl hl.1 rfl (lv_room (Nat.le_of_ble_eq_true rfl)) dL_law_372 hc1) hS (fun q _ h => Nat.le_trans hS.1 h) (fun q h => Nat.le_trans hS.1 h) (fun r_ u tS H1 locs htS hvm hw hB9 hz1 hk1 hS => ?_)
    have hP := keepN hP hk1
    generalize H1 = H at hP hS ⊢
    obtain rfl : r_ = 1 := hw
    refine W.eq (g2 := F0 m 375 ls [.int 1]) rfl ?_
    refine lv_istore (lv' := [(5, .int 1), (0, .ref b), (1, .ref (a 0)), (2, .ref (ad 0)), (3, .ref o), (4, .int (nI i))]) hx hb dL_law_375 hl (by decide) rfl (fun ls hl => ?_)
    refine lv_aload_n hx hb dL_law_377 rfl (lv_at hl 3 rfl) ?_
    refine lv_aload_n hx hb dL_law_378 rfl (lv_at hl 1 rfl) ?_
    refine lv_iload hx hb dL_law_379 (lv_at hl 5 rfl) ?_
    refine lv_iconst (v := 1) hx hb dL_law_381 (by decide) ?_
    refine lv_iadd hx hb dL_law_382 ?_
    refine ga_is (y := nI (i + 1)) (nI_add i 1) ?_
    refine ga_sld hx hb hX hbl hbA hS (i + 1) (by omega) hL dL_law_383 ?_
    refine lv_aload_n hx hb dL_law_384 rfl (lv_at hl 1 rfl) ?_
    refine lv_iload hx hb dL_law_385 (lv_at hl 5 rfl) ?_
    refine lv_iconst (v := 2) hx hb dL_law_387 (by decide) ?_
    refine lv_iadd hx hb dL_law_388 ?_
    refine ga_is (y := nI (i + 2)) (nI_add i 2) ?_
    refine ga_sld hx hb hX hbl hbA hS (i + 2) (by omega) hL dL_law_389 ?_
    have hF := freeR hD hS hA
    refine va_calli (va_runV (As := [.int (xs (i + 1)), .int (xs (i + 2))]) (rest := []) ⟨hx, hb, hml, hown, hts⟩ (kX1_value_no l dC dI cI cZ cA ad H.size th n wv lo cf tf vs nr (xs (i + 1)) (xs (i + 2)) hB) (cwV 2 hts gL_law_X1_value rfl rfl rfl (by decide +kernel) ⟨Nat.le_of_ble_eq_true rfl, Nat.le_of_ble_eq_true rfl⟩) ⟨blindW, va_recv hKg (pR hP) (ci := 1) (q0 := 0) rfl rfl, preW (pR hP) hKg (dR hD)⟩ rfl rfl hl.1 rfl (lv_room (Nat.le_of_ble_eq_true rfl)) dL_law_390 hc2) hS (fun q _ h => hF q h) hF (fun r_ u tS H1 locs htS hvm hw hB9 hz1 hk1 hS => ?_)
    obtain ⟨hP1, hK1, hD1⟩ := hB9
    rw [htS] at hP1
    obtain ⟨hP, hD⟩ := joinR hP hD hk1 hF hP1 hD1
    generalize H1 = H at hP hS ⊢
    obtain rfl : r_ = 0 := hw
    have hP : va_P (dC, dI) vwCl ((XW cI cZ cA a n am rf mk wv lo cf tf T mt im ++ OW o cJ fo) ++ MW cI cZ ad 1 n wv lo cf tf vs nr) H := hP
    have hD : va_D (fun q : Nat => s.heap.size ≤ q) ((XW cI cZ cA a n am rf mk wv lo cf tf T mt im ++ OW o cJ fo) ++ MW cI cZ ad 1 n wv lo cf tf vs nr) := hD
    refine W.eq (g2 := F0 m 393 ls [.int 0]) rfl ?_
    refine lv_istore (lv' := [(6, .int 0), (5, .int 1), (0, .ref b), (1, .ref (a 0)), (2, .ref (ad 0)), (3, .ref o), (4, .int (nI i))]) hx hb dL_law_393 hl (by decide) rfl (fun ls hl => ?_)
    refine lv_aload_n hx hb dL_law_395 rfl (lv_at hl 4 rfl) ?_
    refine W.callR (r := nI 1) (W.runV (As := []) (rest := []) ⟨hx, hb, hml, hown, hts⟩ (kX1_thrown l dC dI cI cZ cA ad 1 n wv lo cf tf vs nr ) (cwV 0 hts gL_law_X1_thrown rfl rfl rfl (by decide +kernel) ⟨Nat.le_of_ble_eq_true rfl, Nat.le_of_ble_eq_true rfl⟩) ⟨blindR, va_recv hKg (pR hP) (ci := 1) (q0 := 0) rfl rfl, preR (pR hP) hKg⟩ rfl rfl hl.1 rfl (lv_room (Nat.le_of_ble_eq_true rfl)) dL_law_396 hc2) ?_
    refine W.eq (g2 := F0 m 399 ls [.int (nI 1)]) rfl ?_
    refine lv_iload hx hb dL_law_399 (lv_at hl 1 rfl) ?_
    refine lv_icmp_eq (tgt := 406) hx hb dL_law_401 (by decide) (fun hq1 => ?_) (fun hq1 => absurd (show nI 1 = 1 from rfl) hq1)
    refine lv_iload hx hb dL_law_406 (lv_at hl 1 rfl) ?_
    refine lv_if_ne (tgt := 423) hx hb dL_law_408 (by decide) (fun hq2 => ?_) (fun hq2 => absurd hq2 (by decide))
    refine lv_goto (tgt := 927) hx hb dL_law_423 (by decide) ?_
    exact nx n am rf mk wv lo cf tf T mt im 1 vs nr fo (hI) H locs hP hD hS ls (lv_sub hl [2, 3, 4, 5, 6] rfl)
  · refine lv_aload_n hx hb dL_law_358 rfl (lv_at hl 1 rfl) ?_
    refine lv_aload_n hx hb dL_law_359 rfl (lv_at hl 0 rfl) ?_
    refine lv_iload hx hb dL_law_360 (lv_at hl 4 rfl) ?_
    refine lv_iconst (v := 1) hx hb dL_law_362 (by decide) ?_
    refine lv_iadd hx hb dL_law_363 ?_
    refine ga_is (y := nI (i + 1)) (nI_add i 1) ?_
    refine ga_sld hx hb hX hbl hbA hS (i + 1) (by omega) hL dL_law_364 ?_
    refine ga_is (y := nI j) (hv1) ?_
    refine lv_aload_n hx hb dL_law_365 rfl (lv_at hl 0 rfl) ?_
    refine lv_iload hx hb dL_law_366 (lv_at hl 4 rfl) ?_
    refine lv_iconst (v := 2) hx hb dL_law_368 (by decide) ?_
    refine lv_iadd hx hb dL_law_369 ?_
    refine ga_is (y := nI (i + 2)) (nI_add i 2) ?_
    refine ga_sld hx hb hX hbl hbA hS (i + 2) (by omega) hL dL_law_370 ?_
    refine ga_is (y := nI d) (hv2) ?_
    refine lv_aload_n hx hb dL_law_371 rfl (lv_at hl 3 rfl) ?_
    have hF := freeL hD hS hA
    refine va_calli (vx_runSW (As := [.ref (a 0), .int (nI j), .int (nI d), .ref o]) (rest := []) ⟨hx, hb, hml, hown, hts⟩ (kL_value l dC dI cI cZ cA cJ a o fo H.size n am rf mk wv lo cf tf T mt im j d hd hG hT hj) (vx_cwSW 4 hts gL_law_L_value rfl rfl rfl (by decide +kernel) ⟨Nat.le_of_ble_eq_true rfl, Nat.le_of_ble_eq_true rfl⟩) ⟨blindW, preW (pL hP) hK (dL hD)⟩ rfl rfl hl.1 rfl (lv_room (Nat.le_of_ble_eq_true rfl)) dL_law_372 hc0) hS (fun q _ h => hF q h) hF (fun r_ u tS H1 locs htS hvm hw hB9 hz1 hk1 hS => ?_)
    obtain ⟨hP1, hK1, hD1⟩ := hB9
    rw [htS] at hP1
    obtain ⟨hP, hD⟩ := joinL hP hD hk1 hF hP1 hD1
    generalize H1 = H at hP hS ⊢
    obtain ⟨rfl, hsu⟩ := hw
    have hP : va_P (dC, dI) vwCl ((XW cI cZ cA a n am (u.1) mk wv lo cf tf (u.2) mt im ++ OW o cJ (vp_updL fo 0 (vv wv lo cf tf d j).toInt64)) ++ MW cI cZ ad th n wv lo cf tf vs nr) H := hP
    have hD : va_D (fun q : Nat => s.heap.size ≤ q) ((XW cI cZ cA a n am (u.1) mk wv lo cf tf (u.2) mt im ++ OW o cJ (vp_updL fo 0 (vv wv lo cf tf d j).toInt64)) ++ MW cI cZ ad th n wv lo cf tf vs nr) := hD
    refine W.eq (g2 := F0 m 375 ls [.int 0]) rfl ?_
    refine lv_istore (lv' := [(5, .int 0), (0, .ref b), (1, .ref (a 0)), (2, .ref (ad 0)), (3, .ref o), (4, .int (nI i))]) hx hb dL_law_375 hl (by decide) rfl (fun ls hl => ?_)
    refine lv_aload_n hx hb dL_law_377 rfl (lv_at hl 3 rfl) ?_
    refine lv_aload_n hx hb dL_law_378 rfl (lv_at hl 1 rfl) ?_
    refine lv_iload hx hb dL_law_379 (lv_at hl 5 rfl) ?_
    refine lv_iconst (v := 1) hx hb dL_law_381 (by decide) ?_
    refine lv_iadd hx hb dL_law_382 ?_
    refine ga_is (y := nI (i + 1)) (nI_add i 1) ?_
    refine ga_sld hx hb hX hbl hbA hS (i + 1) (by omega) hL dL_law_383 ?_
    refine ga_is (y := nI j) (hv1) ?_
    refine lv_aload_n hx hb dL_law_384 rfl (lv_at hl 1 rfl) ?_
    refine lv_iload hx hb dL_law_385 (lv_at hl 5 rfl) ?_
    refine lv_iconst (v := 2) hx hb dL_law_387 (by decide) ?_
    refine lv_iadd hx hb dL_law_388 ?_
    refine ga_is (y := nI (i + 2)) (nI_add i 2) ?_
    refine ga_sld hx hb hX hbl hbA hS (i + 2) (by omega) hL dL_law_389 ?_
    refine ga_is (y := nI d) (hv2) ?_
    have hF := freeR hD hS hA
    refine va_calli (va_runV (As := [.int (nI j), .int (nI d)]) (rest := []) ⟨hx, hb, hml, hown, hts⟩ (kX1_value l dC dI cI cZ cA ad H.size th n wv lo cf tf vs nr j d hd hG hj) (cwV 2 hts gL_law_X1_value rfl rfl rfl (by decide +kernel) ⟨Nat.le_of_ble_eq_true rfl, Nat.le_of_ble_eq_true rfl⟩) ⟨blindW, va_recv hKg (pR hP) (ci := 1) (q0 := 0) rfl rfl, preW (pR hP) hKg (dR hD)⟩ rfl rfl hl.1 rfl (lv_room (Nat.le_of_ble_eq_true rfl)) dL_law_390 hc0) hS (fun q _ h => hF q h) hF (fun r_ u1 tS H1 locs htS hvm hw hB9 hz1 hk1 hS => ?_)
    obtain ⟨hP1, hK1, hD1⟩ := hB9
    rw [htS] at hP1
    obtain ⟨hP, hD⟩ := joinR hP hD hk1 hF hP1 hD1
    generalize H1 = H at hP hS ⊢
    obtain rfl : r_ = vv wv lo cf tf d j := hw
    have hP : va_P (dC, dI) vwCl ((XW cI cZ cA a n am (u.1) mk wv lo cf tf (u.2) mt im ++ OW o cJ (vp_updL fo 0 (vv wv lo cf tf d j).toInt64)) ++ MW cI cZ ad 0 n wv lo cf tf u1 nr) H := hP
    have hD : va_D (fun q : Nat => s.heap.size ≤ q) ((XW cI cZ cA a n am (u.1) mk wv lo cf tf (u.2) mt im ++ OW o cJ (vp_updL fo 0 (vv wv lo cf tf d j).toInt64)) ++ MW cI cZ ad 0 n wv lo cf tf u1 nr) := hD
    refine W.eq (g2 := F0 m 393 ls [.int (vv wv lo cf tf d j)]) rfl ?_
    refine lv_istore (lv' := [(6, .int (vv wv lo cf tf d j)), (5, .int 0), (0, .ref b), (1, .ref (a 0)), (2, .ref (ad 0)), (3, .ref o), (4, .int (nI i))]) hx hb dL_law_393 hl (by decide) rfl (fun ls hl => ?_)
    refine lv_aload_n hx hb dL_law_395 rfl (lv_at hl 4 rfl) ?_
    refine W.callR (r := nI 0) (W.runV (As := []) (rest := []) ⟨hx, hb, hml, hown, hts⟩ (kX1_thrown l dC dI cI cZ cA ad 0 n wv lo cf tf u1 nr ) (cwV 0 hts gL_law_X1_thrown rfl rfl rfl (by decide +kernel) ⟨Nat.le_of_ble_eq_true rfl, Nat.le_of_ble_eq_true rfl⟩) ⟨blindR, va_recv hKg (pR hP) (ci := 1) (q0 := 0) rfl rfl, preR (pR hP) hKg⟩ rfl rfl hl.1 rfl (lv_room (Nat.le_of_ble_eq_true rfl)) dL_law_396 hc0) ?_
    refine W.eq (g2 := F0 m 399 ls [.int (nI 0)]) rfl ?_
    refine lv_iload hx hb dL_law_399 (lv_at hl 1 rfl) ?_
    refine lv_icmp_eq (tgt := 406) hx hb dL_law_401 (by decide) (fun hq1 => ?_) (fun hq1 => absurd (show nI 0 = 0 from rfl) hq1)
    refine lv_iload hx hb dL_law_406 (lv_at hl 1 rfl) ?_
    refine lv_if_ne (tgt := 423) hx hb dL_law_408 (by decide) (fun hq2 => absurd (rfl : (0 : Int32) = 0) hq2) (fun hq2 => ?_)
    refine lv_aload_n hx hb dL_law_411 rfl (lv_at hl 5 rfl) ?_
    refine lv_iconst (v := 0) hx hb dL_law_412 (by decide) ?_
    refine va_lald hx hb hK (pL hP) 16 3 OW_at rfl in_0 dL_law_413 ?_
    rw [sb_cl0, pk_uLs]
    refine lv_iload hx hb dL_law_414 (lv_at hl 0 rfl) ?_
    refine lv_i2l hx hb dL_law_416 rfl ?_
    refine W.lcmp hx hb dL_law_417 ?_
    rw [lcmp_self]
    refine lv_if_eq (tgt := 423) hx hb dL_law_418 (by decide) (fun hq3 => ?_) (fun hq3 => absurd (rfl : (0 : Int32) = 0) hq3)
    refine lv_goto (tgt := 927) hx hb dL_law_423 (by decide) ?_
    refine W.widen (k := cells + 1) (n := slots + 6) (by omega) (by omega) ?_
    exact nx n am (u.1) mk wv lo cf tf (u.2) mt im 0 u1 nr (vp_updL fo 0 (vv wv lo cf tf d j).toInt64) (⟨hG, hsu, hM, hsm⟩) H locs hP hD hS ls (lv_sub hl [2, 3, 4, 5, 6] rfl)
set_option maxHeartbeats 4000000 in
set_option maxRecDepth 100000 in
theorem law_best {p : Program} {l : Launch} {e : Env} {s : State} {m : MethodId} {below : List Frame} {meth : Method} {c : Code} {b L : Nat} {xs : Nat → Int32} (hL : L ≤ 2049) (C0 : lw_At p s m meth c b L xs) (hl9 : l.stackTraces = false) {dC : Nat → ClassId} {dI : Nat → Nat → Nat} {cI cZ cA cJ : ClassId} {sa : Nat → Nat} (hK : va_K (dC, dI) vwCl (GJ cI cZ cA cJ) s) (hE : EX sa (fun q : Nat => s.heap.size ≤ q) s s.heap) {a ad : Nat → Nat} {o i : Nat} (hi : i + 4 ≤ L) {cells slots : Nat} (hcs : cells + 1 ≤ 601024 ∧ slots + 6 ≤ 7293000) (nx : LNx p l e s m below meth c b dC dI cI cZ cA cJ a ad o i (cells + 1) (slots + 6)) (n am rf mk : Nat) (wv lo : Nat → Int32) (cf tf : Nat → Nat) (T : Nat → Nat → Int32) (mt : Nat → Nat) (im : Nat → Int32) (th : Nat) (vs : Nat → Int32) (nr : Nat → Nat) (fo : Nat → Int64) (hI : LInv n am rf mk wv lo cf tf T mt im) (H : Heap) (locs : List Loc) (hP : va_P (dC, dI) vwCl ((XW cI cZ cA a n am rf mk wv lo cf tf T mt im ++ OW o cJ fo) ++ MW cI cZ ad th n wv lo cf tf vs nr) H) (hD : va_D (fun q : Nat => s.heap.size ≤ q) ((XW cI cZ cA a n am rf mk wv lo cf tf T mt im ++ OW o cJ fo) ++ MW cI cZ ad th n wv lo cf tf vs nr)) (hS : va_S (fun q : Nat => s.heap.size ≤ q) s.heap H locs) (ls : Array Slot) (hl : lv_has ls 7 [(0, .ref b), (1, .ref (a 0)), (2, .ref (ad 0)), (3, .ref o), (4, .int (nI i))]) : W p l e room_1 s m #[Value.ref b] below meth c H locs cells slots (lw_Z below #[Value.ref b] s) (F0 m 426 ls []) := by
  obtain ⟨hx, hb, hr, hml, hown, hts0, hX, hbl, hlocks, hgv⟩ := C0
  have hts : ∀ w ∈ wsL_law, w.before #[Value.ref b] s = true := fun w h => hts0 w (wsL_law_in w h)
  have hown : s.vm.findClass RL = some m.cls := hown
  have hA : ∀ q : Nat, s.heap.size ≤ q → (fun q : Nat => s.heap.size ≤ q) q := fun _ h => h
  have hbA : ¬ (fun q : Nat => s.heap.size ≤ q) b := Nat.not_le.mpr hbl
  have hKg := hK.sub (tys' := GT cI cZ cA) [0, 1, 2] rfl
  obtain ⟨hG, hT, hM, hsm⟩ := id hI
  obtain ⟨hn4, hwr, hc, htt, hlo, hz0⟩ := id hG
  have hc0 : cells + 0 ≤ room_1.cells ∧ slots + 0 ≤ room_1.slots := ⟨by show cells + 0 ≤ 601024; omega, by show slots + 0 ≤ 7293000; omega⟩
  have hc1 : cells + 1 ≤ room_1.cells ∧ slots + 6 ≤ room_1.slots := hcs
  have hc2 : cells + 1 + 0 ≤ room_1.cells ∧ slots + 6 + 0 ≤ room_1.slots := hcs
  rcases ask_or (n := n) (by omega) (xs (i + 1)) (xs (i + 2)) with hB | ⟨j, d, hj, hd, hv1, hv2⟩
  · refine lv_aload_n hx hb dL_law_426 rfl (lv_at hl 1 rfl) ?_
    refine lv_aload_n hx hb dL_law_427 rfl (lv_at hl 0 rfl) ?_
    refine lv_iload hx hb dL_law_428 (lv_at hl 4 rfl) ?_
    refine lv_iconst (v := 1) hx hb dL_law_430 (by decide) ?_
    refine lv_iadd hx hb dL_law_431 ?_
    refine ga_is (y := nI (i + 1)) (nI_add i 1) ?_
    refine ga_sld hx hb hX hbl hbA hS (i + 1) (by omega) hL dL_law_432 ?_
    refine lv_aload_n hx hb dL_law_433 rfl (lv_at hl 0 rfl) ?_
    refine lv_iload hx hb dL_law_434 (lv_at hl 4 rfl) ?_
    refine lv_iconst (v := 2) hx hb dL_law_436 (by decide) ?_
    refine lv_iadd hx hb dL_law_437 ?_
    refine ga_is (y := nI (i + 2)) (nI_add i 2) ?_
    refine ga_sld hx hb hX hbl hbA hS (i + 2) (by omega) hL dL_law_438 ?_
    refine lv_aload_n hx hb dL_law_439 rfl (lv_at hl 3 rfl) ?_
    refine va_calli (A0 := (fun q : Nat => s.heap.size ≤ q)) (H0 := s.heap) (vx_runSW (As := [.ref (a 0), .int (xs (i + 1)), .int (xs (i + 2)), .ref o]) (rest := []) ⟨hx, hb, hml, hown, hts⟩ (nL_best l hl9 dC dI cI cZ cA cJ a o fo H.size sa n am rf mk wv lo cf tf T mt im (xs (i + 1)) (xs (i + 2)) hB) (vx_cwSW 4 hts gL_law_L_best rfl rfl rfl (by decide +kernel) ⟨Nat.le_of_ble_eq_true rfl, Nat.le_of_ble_eq_true rfl⟩) ⟨blindTP, preTP (pL hP) hK ((hE.kept hS.2.1).narrow (fun _ h => h.elim))⟩ rfl rfl hl.1 rfl (lv_room (Nat.le_of_ble_eq_true rfl)) dL_law_440 hc1) hS (fun q _ h => Nat.le_trans hS.1 h) (fun q h => Nat.le_trans hS.1 h) (fun r_ u tS H1 locs htS hvm hw hB9 hz1 hk1 hS => ?_)
    have hP := keepN hP hk1
    generalize H1 = H at hP hS ⊢
    obtain rfl : r_ = 1 := hw
    refine W.eq (g2 := F0 m 443 ls [.int 1]) rfl ?_
    refine lv_istore (lv' := [(5, .int 1), (0, .ref b), (1, .ref (a 0)), (2, .ref (ad 0)), (3, .ref o), (4, .int (nI i))]) hx hb dL_law_443 hl (by decide) rfl (fun ls hl => ?_)
    refine lv_aload_n hx hb dL_law_445 rfl (lv_at hl 3 rfl) ?_
    refine lv_aload_n hx hb dL_law_446 rfl (lv_at hl 1 rfl) ?_
    refine lv_iload hx hb dL_law_447 (lv_at hl 5 rfl) ?_
    refine lv_iconst (v := 1) hx hb dL_law_449 (by decide) ?_
    refine lv_iadd hx hb dL_law_450 ?_
    refine ga_is (y := nI (i + 1)) (nI_add i 1) ?_
    refine ga_sld hx hb hX hbl hbA hS (i + 1) (by omega) hL dL_law_451 ?_
    refine lv_aload_n hx hb dL_law_452 rfl (lv_at hl 1 rfl) ?_
    refine lv_iload hx hb dL_law_453 (lv_at hl 5 rfl) ?_
    refine lv_iconst (v := 2) hx hb dL_law_455 (by decide) ?_
    refine lv_iadd hx hb dL_law_456 ?_
    refine ga_is (y := nI (i + 2)) (nI_add i 2) ?_
    refine ga_sld hx hb hX hbl hbA hS (i + 2) (by omega) hL dL_law_457 ?_
    have hF := freeR hD hS hA
    refine va_calli (va_runV (As := [.int (xs (i + 1)), .int (xs (i + 2))]) (rest := []) ⟨hx, hb, hml, hown, hts⟩ (kX1_best_no l dC dI cI cZ cA ad H.size th n wv lo cf tf vs nr (xs (i + 1)) (xs (i + 2)) hB) (cwV 2 hts gL_law_X1_best rfl rfl rfl (by decide +kernel) ⟨Nat.le_of_ble_eq_true rfl, Nat.le_of_ble_eq_true rfl⟩) ⟨blindW, va_recv hKg (pR hP) (ci := 1) (q0 := 0) rfl rfl, preW (pR hP) hKg (dR hD)⟩ rfl rfl hl.1 rfl (lv_room (Nat.le_of_ble_eq_true rfl)) dL_law_458 hc2) hS (fun q _ h => hF q h) hF (fun r_ u tS H1 locs htS hvm hw hB9 hz1 hk1 hS => ?_)
    obtain ⟨hP1, hK1, hD1⟩ := hB9
    rw [htS] at hP1
    obtain ⟨hP, hD⟩ := joinR hP hD hk1 hF hP1 hD1
    generalize H1 = H at hP hS ⊢
    obtain rfl : r_ = 0 := hw
    have hP : va_P (dC, dI) vwCl ((XW cI cZ cA a n am rf mk wv lo cf tf T mt im ++ OW o cJ fo) ++ MW cI cZ ad 1 n wv lo cf tf vs nr) H := hP
    have hD : va_D (fun q : Nat => s.heap.size ≤ q) ((XW cI cZ cA a n am rf mk wv lo cf tf T mt im ++ OW o cJ fo) ++ MW cI cZ ad 1 n wv lo cf tf vs nr) := hD
    refine W.eq (g2 := F0 m 461 ls [.int 0]) rfl ?_
    refine lv_istore (lv' := [(6, .int 0), (5, .int 1), (0, .ref b), (1, .ref (a 0)), (2, .ref (ad 0)), (3, .ref o), (4, .int (nI i))]) hx hb dL_law_461 hl (by decide) rfl (fun ls hl => ?_)
    refine lv_aload_n hx hb dL_law_463 rfl (lv_at hl 4 rfl) ?_
    refine W.callR (r := nI 1) (W.runV (As := []) (rest := []) ⟨hx, hb, hml, hown, hts⟩ (kX1_thrown l dC dI cI cZ cA ad 1 n wv lo cf tf vs nr ) (cwV 0 hts gL_law_X1_thrown rfl rfl rfl (by decide +kernel) ⟨Nat.le_of_ble_eq_true rfl, Nat.le_of_ble_eq_true rfl⟩) ⟨blindR, va_recv hKg (pR hP) (ci := 1) (q0 := 0) rfl rfl, preR (pR hP) hKg⟩ rfl rfl hl.1 rfl (lv_room (Nat.le_of_ble_eq_true rfl)) dL_law_464 hc2) ?_
    refine W.eq (g2 := F0 m 467 ls [.int (nI 1)]) rfl ?_
    refine lv_iload hx hb dL_law_467 (lv_at hl 1 rfl) ?_
    refine lv_icmp_eq (tgt := 474) hx hb dL_law_469 (by decide) (fun hq1 => ?_) (fun hq1 => absurd (show nI 1 = 1 from rfl) hq1)
    refine lv_iload hx hb dL_law_474 (lv_at hl 1 rfl) ?_
    refine lv_if_ne (tgt := 491) hx hb dL_law_476 (by decide) (fun hq2 => ?_) (fun hq2 => absurd hq2 (by decide))
    refine lv_goto (tgt := 927) hx hb dL_law_491 (by decide) ?_
    exact nx n am rf mk wv lo cf tf T mt im 1 vs nr fo (hI) H locs hP hD hS ls (lv_sub hl [2, 3, 4, 5, 6] rfl)
  · refine lv_aload_n hx hb dL_law_426 rfl (lv_at hl 1 rfl) ?_
    refine lv_aload_n hx hb dL_law_427 rfl (lv_at hl 0 rfl) ?_
    refine lv_iload hx hb dL_law_428 (lv_at hl 4 rfl) ?_
    refine lv_iconst (v := 1) hx hb dL_law_430 (by decide) ?_
    refine lv_iadd hx hb dL_law_431 ?_
    refine ga_is (y := nI (i + 1)) (nI_add i 1) ?_
    refine ga_sld hx hb hX hbl hbA hS (i + 1) (by omega) hL dL_law_432 ?_
    refine ga_is (y := nI j) (hv1) ?_
    refine lv_aload_n hx hb dL_law_433 rfl (lv_at hl 0 rfl) ?_
    refine lv_iload hx hb dL_law_434 (lv_at hl 4 rfl) ?_
    refine lv_iconst (v := 2) hx hb dL_law_436 (by decide) ?_
    refine lv_iadd hx hb dL_law_437 ?_
    refine ga_is (y := nI (i + 2)) (nI_add i 2) ?_
    refine ga_sld hx hb hX hbl hbA hS (i + 2) (by omega) hL dL_law_438 ?_
    refine ga_is (y := nI d) (hv2) ?_
    refine lv_aload_n hx hb dL_law_439 rfl (lv_at hl 3 rfl) ?_
    have hF := freeL hD hS hA
    refine va_calli (vx_runSW (As := [.ref (a 0), .int (nI j), .int (nI d), .ref o]) (rest := []) ⟨hx, hb, hml, hown, hts⟩ (kL_best l dC dI cI cZ cA cJ a o fo H.size n am rf mk wv lo cf tf T mt im j d hd hG hT hj) (vx_cwSW 4 hts gL_law_L_best rfl rfl rfl (by decide +kernel) ⟨Nat.le_of_ble_eq_true rfl, Nat.le_of_ble_eq_true rfl⟩) ⟨blindW, preW (pL hP) hK (dL hD)⟩ rfl rfl hl.1 rfl (lv_room (Nat.le_of_ble_eq_true rfl)) dL_law_440 hc0) hS (fun q _ h => hF q h) hF (fun r_ u tS H1 locs htS hvm hw hB9 hz1 hk1 hS => ?_)
    obtain ⟨hP1, hK1, hD1⟩ := hB9
    rw [htS] at hP1
    obtain ⟨hP, hD⟩ := joinL hP hD hk1 hF hP1 hD1
    generalize H1 = H at hP hS ⊢
    obtain ⟨rfl, hsu⟩ := hw
    have hP : va_P (dC, dI) vwCl ((XW cI cZ cA a n am (u.1) mk wv lo cf tf (u.2) mt im ++ OW o cJ (vp_updL fo 0 (bm cf tf (vv wv lo cf tf) j d).toInt64)) ++ MW cI cZ ad th n wv lo cf tf vs nr) H := hP
    have hD : va_D (fun q : Nat => s.heap.size ≤ q) ((XW cI cZ cA a n am (u.1) mk wv lo cf tf (u.2) mt im ++ OW o cJ (vp_updL fo 0 (bm cf tf (vv wv lo cf tf) j d).toInt64)) ++ MW cI cZ ad th n wv lo cf tf vs nr) := hD
    refine W.eq (g2 := F0 m 443 ls [.int 0]) rfl ?_
    refine lv_istore (lv' := [(5, .int 0), (0, .ref b), (1, .ref (a 0)), (2, .ref (ad 0)), (3, .ref o), (4, .int (nI i))]) hx hb dL_law_443 hl (by decide) rfl (fun ls hl => ?_)
    refine lv_aload_n hx hb dL_law_445 rfl (lv_at hl 3 rfl) ?_
    refine lv_aload_n hx hb dL_law_446 rfl (lv_at hl 1 rfl) ?_
    refine lv_iload hx hb dL_law_447 (lv_at hl 5 rfl) ?_
    refine lv_iconst (v := 1) hx hb dL_law_449 (by decide) ?_
    refine lv_iadd hx hb dL_law_450 ?_
    refine ga_is (y := nI (i + 1)) (nI_add i 1) ?_
    refine ga_sld hx hb hX hbl hbA hS (i + 1) (by omega) hL dL_law_451 ?_
    refine ga_is (y := nI j) (hv1) ?_
    refine lv_aload_n hx hb dL_law_452 rfl (lv_at hl 1 rfl) ?_
    refine lv_iload hx hb dL_law_453 (lv_at hl 5 rfl) ?_
    refine lv_iconst (v := 2) hx hb dL_law_455 (by decide) ?_
    refine lv_iadd hx hb dL_law_456 ?_
    refine ga_is (y := nI (i + 2)) (nI_add i 2) ?_
    refine ga_sld hx hb hX hbl hbA hS (i + 2) (by omega) hL dL_law_457 ?_
    refine ga_is (y := nI d) (hv2) ?_
    have hF := freeR hD hS hA
    refine va_calli (va_runV (As := [.int (nI j), .int (nI d)]) (rest := []) ⟨hx, hb, hml, hown, hts⟩ (kX1_best l dC dI cI cZ cA ad H.size th n wv lo cf tf vs nr j d hd hG hj) (cwV 2 hts gL_law_X1_best rfl rfl rfl (by decide +kernel) ⟨Nat.le_of_ble_eq_true rfl, Nat.le_of_ble_eq_true rfl⟩) ⟨blindW, va_recv hKg (pR hP) (ci := 1) (q0 := 0) rfl rfl, preW (pR hP) hKg (dR hD)⟩ rfl rfl hl.1 rfl (lv_room (Nat.le_of_ble_eq_true rfl)) dL_law_458 hc0) hS (fun q _ h => hF q h) hF (fun r_ u1 tS H1 locs htS hvm hw hB9 hz1 hk1 hS => ?_)
    obtain ⟨hP1, hK1, hD1⟩ := hB9
    rw [htS] at hP1
    obtain ⟨hP, hD⟩ := joinR hP hD hk1 hF hP1 hD1
    generalize H1 = H at hP hS ⊢
    obtain rfl : r_ = bm cf tf (vv wv lo cf tf) j d := hw
    have hP : va_P (dC, dI) vwCl ((XW cI cZ cA a n am (u.1) mk wv lo cf tf (u.2) mt im ++ OW o cJ (vp_updL fo 0 (bm cf tf (vv wv lo cf tf) j d).toInt64)) ++ MW cI cZ ad 0 n wv lo cf tf u1 nr) H := hP
    have hD : va_D (fun q : Nat => s.heap.size ≤ q) ((XW cI cZ cA a n am (u.1) mk wv lo cf tf (u.2) mt im ++ OW o cJ (vp_updL fo 0 (bm cf tf (vv wv lo cf tf) j d).toInt64)) ++ MW cI cZ ad 0 n wv lo cf tf u1 nr) := hD
    refine W.eq (g2 := F0 m 461 ls [.int (bm cf tf (vv wv lo cf tf) j d)]) rfl ?_
    refine lv_istore (lv' := [(6, .int (bm cf tf (vv wv lo cf tf) j d)), (5, .int 0), (0, .ref b), (1, .ref (a 0)), (2, .ref (ad 0)), (3, .ref o), (4, .int (nI i))]) hx hb dL_law_461 hl (by decide) rfl (fun ls hl => ?_)
    refine lv_aload_n hx hb dL_law_463 rfl (lv_at hl 4 rfl) ?_
    refine W.callR (r := nI 0) (W.runV (As := []) (rest := []) ⟨hx, hb, hml, hown, hts⟩ (kX1_thrown l dC dI cI cZ cA ad 0 n wv lo cf tf u1 nr ) (cwV 0 hts gL_law_X1_thrown rfl rfl rfl (by decide +kernel) ⟨Nat.le_of_ble_eq_true rfl, Nat.le_of_ble_eq_true rfl⟩) ⟨blindR, va_recv hKg (pR hP) (ci := 1) (q0 := 0) rfl rfl, preR (pR hP) hKg⟩ rfl rfl hl.1 rfl (lv_room (Nat.le_of_ble_eq_true rfl)) dL_law_464 hc0) ?_
    refine W.eq (g2 := F0 m 467 ls [.int (nI 0)]) rfl ?_
    refine lv_iload hx hb dL_law_467 (lv_at hl 1 rfl) ?_
    refine lv_icmp_eq (tgt := 474) hx hb dL_law_469 (by decide) (fun hq1 => ?_) (fun hq1 => absurd (show nI 0 = 0 from rfl) hq1)
    refine lv_iload hx hb dL_law_474 (lv_at hl 1 rfl) ?_
    refine lv_if_ne (tgt := 491) hx hb dL_law_476 (by decide) (fun hq2 => absurd (rfl : (0 : Int32) = 0) hq2) (fun hq2 => ?_)
    refine lv_aload_n hx hb dL_law_479 rfl (lv_at hl 5 rfl) ?_
    refine lv_iconst (v := 0) hx hb dL_law_480 (by decide) ?_
    refine va_lald hx hb hK (pL hP) 16 3 OW_at rfl in_0 dL_law_481 ?_
    rw [sb_cl0, pk_uLs]
    refine lv_iload hx hb dL_law_482 (lv_at hl 0 rfl) ?_
    refine lv_i2l hx hb dL_law_484 rfl ?_
    refine W.lcmp hx hb dL_law_485 ?_
    rw [lcmp_self]
    refine lv_if_eq (tgt := 491) hx hb dL_law_486 (by decide) (fun hq3 => ?_) (fun hq3 => absurd (rfl : (0 : Int32) = 0) hq3)
    refine lv_goto (tgt := 927) hx hb dL_law_491 (by decide) ?_
    refine W.widen (k := cells + 1) (n := slots + 6) (by omega) (by omega) ?_
    exact nx n am (u.1) mk wv lo cf tf (u.2) mt im 0 u1 nr (vp_updL fo 0 (bm cf tf (vv wv lo cf tf) j d).toInt64) (⟨hG, hsu, hM, hsm⟩) H locs hP hD hS ls (lv_sub hl [2, 3, 4, 5, 6] rfl)
set_option maxHeartbeats 4000000 in
set_option maxRecDepth 100000 in
theorem law_ties {p : Program} {l : Launch} {e : Env} {s : State} {m : MethodId} {below : List Frame} {meth : Method} {c : Code} {b L : Nat} {xs : Nat → Int32} (hL : L ≤ 2049) (C0 : lw_At p s m meth c b L xs) (hl9 : l.stackTraces = false) {dC : Nat → ClassId} {dI : Nat → Nat → Nat} {cI cZ cA cJ : ClassId} {sa : Nat → Nat} (hK : va_K (dC, dI) vwCl (GJ cI cZ cA cJ) s) (hE : EX sa (fun q : Nat => s.heap.size ≤ q) s s.heap) {a ad : Nat → Nat} {o i : Nat} (hi : i + 4 ≤ L) {cells slots : Nat} (hcs : cells + 1 ≤ 601024 ∧ slots + 6 ≤ 7293000) (nx : LNx p l e s m below meth c b dC dI cI cZ cA cJ a ad o i (cells + 1) (slots + 6)) (n am rf mk : Nat) (wv lo : Nat → Int32) (cf tf : Nat → Nat) (T : Nat → Nat → Int32) (mt : Nat → Nat) (im : Nat → Int32) (th : Nat) (vs : Nat → Int32) (nr : Nat → Nat) (fo : Nat → Int64) (hI : LInv n am rf mk wv lo cf tf T mt im) (H : Heap) (locs : List Loc) (hP : va_P (dC, dI) vwCl ((XW cI cZ cA a n am rf mk wv lo cf tf T mt im ++ OW o cJ fo) ++ MW cI cZ ad th n wv lo cf tf vs nr) H) (hD : va_D (fun q : Nat => s.heap.size ≤ q) ((XW cI cZ cA a n am rf mk wv lo cf tf T mt im ++ OW o cJ fo) ++ MW cI cZ ad th n wv lo cf tf vs nr)) (hS : va_S (fun q : Nat => s.heap.size ≤ q) s.heap H locs) (ls : Array Slot) (hl : lv_has ls 7 [(0, .ref b), (1, .ref (a 0)), (2, .ref (ad 0)), (3, .ref o), (4, .int (nI i))]) : W p l e room_1 s m #[Value.ref b] below meth c H locs cells slots (lw_Z below #[Value.ref b] s) (F0 m 661 ls []) := by
  obtain ⟨hx, hb, hr, hml, hown, hts0, hX, hbl, hlocks, hgv⟩ := C0
  have hts : ∀ w ∈ wsL_law, w.before #[Value.ref b] s = true := fun w h => hts0 w (wsL_law_in w h)
  have hown : s.vm.findClass RL = some m.cls := hown
  have hA : ∀ q : Nat, s.heap.size ≤ q → (fun q : Nat => s.heap.size ≤ q) q := fun _ h => h
  have hbA : ¬ (fun q : Nat => s.heap.size ≤ q) b := Nat.not_le.mpr hbl
  have hKg := hK.sub (tys' := GT cI cZ cA) [0, 1, 2] rfl
  obtain ⟨hG, hT, hM, hsm⟩ := id hI
  obtain ⟨hn4, hwr, hc, htt, hlo, hz0⟩ := id hG
  have hc0 : cells + 0 ≤ room_1.cells ∧ slots + 0 ≤ room_1.slots := ⟨by show cells + 0 ≤ 601024; omega, by show slots + 0 ≤ 7293000; omega⟩
  have hc1 : cells + 1 ≤ room_1.cells ∧ slots + 6 ≤ room_1.slots := hcs
  have hc2 : cells + 1 + 0 ≤ room_1.cells ∧ slots + 6 + 0 ≤ room_1.slots := hcs
  rcases ask_or (n := n) (by omega) (xs (i + 1)) (xs (i + 2)) with hB | ⟨j, d, hj, hd, hv1, hv2⟩
  · refine lv_aload_n hx hb dL_law_661 rfl (lv_at hl 1 rfl) ?_
    refine lv_aload_n hx hb dL_law_662 rfl (lv_at hl 0 rfl) ?_
    refine lv_iload hx hb dL_law_663 (lv_at hl 4 rfl) ?_
    refine lv_iconst (v := 1) hx hb dL_law_665 (by decide) ?_
    refine lv_iadd hx hb dL_law_666 ?_
    refine ga_is (y := nI (i + 1)) (nI_add i 1) ?_
    refine ga_sld hx hb hX hbl hbA hS (i + 1) (by omega) hL dL_law_667 ?_
    refine lv_aload_n hx hb dL_law_668 rfl (lv_at hl 0 rfl) ?_
    refine lv_iload hx hb dL_law_669 (lv_at hl 4 rfl) ?_
    refine lv_iconst (v := 2) hx hb dL_law_671 (by decide) ?_
    refine lv_iadd hx hb dL_law_672 ?_
    refine ga_is (y := nI (i + 2)) (nI_add i 2) ?_
    refine ga_sld hx hb hX hbl hbA hS (i + 2) (by omega) hL dL_law_673 ?_
    refine lv_aload_n hx hb dL_law_674 rfl (lv_at hl 3 rfl) ?_
    refine va_calli (A0 := (fun q : Nat => s.heap.size ≤ q)) (H0 := s.heap) (vx_runSW (As := [.ref (a 0), .int (xs (i + 1)), .int (xs (i + 2)), .ref o]) (rest := []) ⟨hx, hb, hml, hown, hts⟩ (nL_ties l hl9 dC dI cI cZ cA cJ a o fo H.size sa n am rf mk wv lo cf tf T mt im (xs (i + 1)) (xs (i + 2)) hB) (vx_cwSW 4 hts gL_law_L_ties rfl rfl rfl (by decide +kernel) ⟨Nat.le_of_ble_eq_true rfl, Nat.le_of_ble_eq_true rfl⟩) ⟨blindTP, preTP (pL hP) hK ((hE.kept hS.2.1).narrow (fun _ h => h.elim))⟩ rfl rfl hl.1 rfl (lv_room (Nat.le_of_ble_eq_true rfl)) dL_law_675 hc1) hS (fun q _ h => Nat.le_trans hS.1 h) (fun q h => Nat.le_trans hS.1 h) (fun r_ u tS H1 locs htS hvm hw hB9 hz1 hk1 hS => ?_)
    have hP := keepN hP hk1
    generalize H1 = H at hP hS ⊢
    obtain rfl : r_ = 1 := hw
    refine W.eq (g2 := F0 m 678 ls [.int 1]) rfl ?_
    refine lv_istore (lv' := [(5, .int 1), (0, .ref b), (1, .ref (a 0)), (2, .ref (ad 0)), (3, .ref o), (4, .int (nI i))]) hx hb dL_law_678 hl (by decide) rfl (fun ls hl => ?_)
    refine lv_aload_n hx hb dL_law_680 rfl (lv_at hl 3 rfl) ?_
    refine lv_aload_n hx hb dL_law_681 rfl (lv_at hl 1 rfl) ?_
    refine lv_iload hx hb dL_law_682 (lv_at hl 5 rfl) ?_
    refine lv_iconst (v := 1) hx hb dL_law_684 (by decide) ?_
    refine lv_iadd hx hb dL_law_685 ?_
    refine ga_is (y := nI (i + 1)) (nI_add i 1) ?_
    refine ga_sld hx hb hX hbl hbA hS (i + 1) (by omega) hL dL_law_686 ?_
    refine lv_aload_n hx hb dL_law_687 rfl (lv_at hl 1 rfl) ?_
    refine lv_iload hx hb dL_law_688 (lv_at hl 5 rfl) ?_
    refine lv_iconst (v := 2) hx hb dL_law_690 (by decide) ?_
    refine lv_iadd hx hb dL_law_691 ?_
    refine ga_is (y := nI (i + 2)) (nI_add i 2) ?_
    refine ga_sld hx hb hX hbl hbA hS (i + 2) (by omega) hL dL_law_692 ?_
    have hF := freeR hD hS hA
    refine va_calli (va_runV (As := [.int (xs (i + 1)), .int (xs (i + 2))]) (rest := []) ⟨hx, hb, hml, hown, hts⟩ (kX1_ties_no l dC dI cI cZ cA ad H.size th n wv lo cf tf vs nr (xs (i + 1)) (xs (i + 2)) hB) (cwV 2 hts gL_law_X1_ties rfl rfl rfl (by decide +kernel) ⟨Nat.le_of_ble_eq_true rfl, Nat.le_of_ble_eq_true rfl⟩) ⟨blindW, va_recv hKg (pR hP) (ci := 1) (q0 := 0) rfl rfl, preW (pR hP) hKg (dR hD)⟩ rfl rfl hl.1 rfl (lv_room (Nat.le_of_ble_eq_true rfl)) dL_law_693 hc2) hS (fun q _ h => hF q h) hF (fun r_ u tS H1 locs htS hvm hw hB9 hz1 hk1 hS => ?_)
    obtain ⟨hP1, hK1, hD1⟩ := hB9
    rw [htS] at hP1
    obtain ⟨hP, hD⟩ := joinR hP hD hk1 hF hP1 hD1
    generalize H1 = H at hP hS ⊢
    obtain rfl : r_ = 0 := hw
    have hP : va_P (dC, dI) vwCl ((XW cI cZ cA a n am rf mk wv lo cf tf T mt im ++ OW o cJ fo) ++ MW cI cZ ad 1 n wv lo cf tf vs nr) H := hP
    have hD : va_D (fun q : Nat => s.heap.size ≤ q) ((XW cI cZ cA a n am rf mk wv lo cf tf T mt im ++ OW o cJ fo) ++ MW cI cZ ad 1 n wv lo cf tf vs nr) := hD
    refine W.eq (g2 := F0 m 696 ls [.int 0]) rfl ?_
    refine lv_istore (lv' := [(6, .int 0), (5, .int 1), (0, .ref b), (1, .ref (a 0)), (2, .ref (ad 0)), (3, .ref o), (4, .int (nI i))]) hx hb dL_law_696 hl (by decide) rfl (fun ls hl => ?_)
    refine lv_aload_n hx hb dL_law_698 rfl (lv_at hl 4 rfl) ?_
    refine W.callR (r := nI 1) (W.runV (As := []) (rest := []) ⟨hx, hb, hml, hown, hts⟩ (kX1_thrown l dC dI cI cZ cA ad 1 n wv lo cf tf vs nr ) (cwV 0 hts gL_law_X1_thrown rfl rfl rfl (by decide +kernel) ⟨Nat.le_of_ble_eq_true rfl, Nat.le_of_ble_eq_true rfl⟩) ⟨blindR, va_recv hKg (pR hP) (ci := 1) (q0 := 0) rfl rfl, preR (pR hP) hKg⟩ rfl rfl hl.1 rfl (lv_room (Nat.le_of_ble_eq_true rfl)) dL_law_699 hc2) ?_
    refine W.eq (g2 := F0 m 702 ls [.int (nI 1)]) rfl ?_
    refine lv_iload hx hb dL_law_702 (lv_at hl 1 rfl) ?_
    refine lv_icmp_eq (tgt := 709) hx hb dL_law_704 (by decide) (fun hq1 => ?_) (fun hq1 => absurd (show nI 1 = 1 from rfl) hq1)
    refine lv_iload hx hb dL_law_709 (lv_at hl 1 rfl) ?_
    refine lv_if_ne (tgt := 726) hx hb dL_law_711 (by decide) (fun hq2 => ?_) (fun hq2 => absurd hq2 (by decide))
    refine lv_goto (tgt := 927) hx hb dL_law_726 (by decide) ?_
    exact nx n am rf mk wv lo cf tf T mt im 1 vs nr fo (hI) H locs hP hD hS ls (lv_sub hl [2, 3, 4, 5, 6] rfl)
  · refine lv_aload_n hx hb dL_law_661 rfl (lv_at hl 1 rfl) ?_
    refine lv_aload_n hx hb dL_law_662 rfl (lv_at hl 0 rfl) ?_
    refine lv_iload hx hb dL_law_663 (lv_at hl 4 rfl) ?_
    refine lv_iconst (v := 1) hx hb dL_law_665 (by decide) ?_
    refine lv_iadd hx hb dL_law_666 ?_
    refine ga_is (y := nI (i + 1)) (nI_add i 1) ?_
    refine ga_sld hx hb hX hbl hbA hS (i + 1) (by omega) hL dL_law_667 ?_
    refine ga_is (y := nI j) (hv1) ?_
    refine lv_aload_n hx hb dL_law_668 rfl (lv_at hl 0 rfl) ?_
    refine lv_iload hx hb dL_law_669 (lv_at hl 4 rfl) ?_
    refine lv_iconst (v := 2) hx hb dL_law_671 (by decide) ?_
    refine lv_iadd hx hb dL_law_672 ?_
    refine ga_is (y := nI (i + 2)) (nI_add i 2) ?_
    refine ga_sld hx hb hX hbl hbA hS (i + 2) (by omega) hL dL_law_673 ?_
    refine ga_is (y := nI d) (hv2) ?_
    refine lv_aload_n hx hb dL_law_674 rfl (lv_at hl 3 rfl) ?_
    have hF := freeL hD hS hA
    refine va_calli (vx_runSW (As := [.ref (a 0), .int (nI j), .int (nI d), .ref o]) (rest := []) ⟨hx, hb, hml, hown, hts⟩ (kL_ties l dC dI cI cZ cA cJ a o fo H.size n am rf mk wv lo cf tf T mt im j d hd hG hT hj) (vx_cwSW 4 hts gL_law_L_ties rfl rfl rfl (by decide +kernel) ⟨Nat.le_of_ble_eq_true rfl, Nat.le_of_ble_eq_true rfl⟩) ⟨blindW, preW (pL hP) hK (dL hD)⟩ rfl rfl hl.1 rfl (lv_room (Nat.le_of_ble_eq_true rfl)) dL_law_675 hc0) hS (fun q _ h => hF q h) hF (fun r_ u tS H1 locs htS hvm hw hB9 hz1 hk1 hS => ?_)
    obtain ⟨hP1, hK1, hD1⟩ := hB9
    rw [htS] at hP1
    obtain ⟨hP, hD⟩ := joinL hP hD hk1 hF hP1 hD1
    generalize H1 = H at hP hS ⊢
    obtain ⟨rfl, hsu⟩ := hw
    have hP : va_P (dC, dI) vwCl ((XW cI cZ cA a n am (u.1) mk wv lo cf tf (u.2) mt im ++ OW o cJ (vp_updL fo 0 (nI (tie cf tf (vv wv lo cf tf) j d)).toInt64)) ++ MW cI cZ ad th n wv lo cf tf vs nr) H := hP
    have hD : va_D (fun q : Nat => s.heap.size ≤ q) ((XW cI cZ cA a n am (u.1) mk wv lo cf tf (u.2) mt im ++ OW o cJ (vp_updL fo 0 (nI (tie cf tf (vv wv lo cf tf) j d)).toInt64)) ++ MW cI cZ ad th n wv lo cf tf vs nr) := hD
    refine W.eq (g2 := F0 m 678 ls [.int 0]) rfl ?_
    refine lv_istore (lv' := [(5, .int 0), (0, .ref b), (1, .ref (a 0)), (2, .ref (ad 0)), (3, .ref o), (4, .int (nI i))]) hx hb dL_law_678 hl (by decide) rfl (fun ls hl => ?_)
    refine lv_aload_n hx hb dL_law_680 rfl (lv_at hl 3 rfl) ?_
    refine lv_aload_n hx hb dL_law_681 rfl (lv_at hl 1 rfl) ?_
    refine lv_iload hx hb dL_law_682 (lv_at hl 5 rfl) ?_
    refine lv_iconst (v := 1) hx hb dL_law_684 (by decide) ?_
    refine lv_iadd hx hb dL_law_685 ?_
    refine ga_is (y := nI (i + 1)) (nI_add i 1) ?_
    refine ga_sld hx hb hX hbl hbA hS (i + 1) (by omega) hL dL_law_686 ?_
    refine ga_is (y := nI j) (hv1) ?_
    refine lv_aload_n hx hb dL_law_687 rfl (lv_at hl 1 rfl) ?_
    refine lv_iload hx hb dL_law_688 (lv_at hl 5 rfl) ?_
    refine lv_iconst (v := 2) hx hb dL_law_690 (by decide) ?_
    refine lv_iadd hx hb dL_law_691 ?_
    refine ga_is (y := nI (i + 2)) (nI_add i 2) ?_
    refine ga_sld hx hb hX hbl hbA hS (i + 2) (by omega) hL dL_law_692 ?_
    refine ga_is (y := nI d) (hv2) ?_
    have hF := freeR hD hS hA
    refine va_calli (va_runV (As := [.int (nI j), .int (nI d)]) (rest := []) ⟨hx, hb, hml, hown, hts⟩ (kX1_ties l dC dI cI cZ cA ad H.size th n wv lo cf tf vs nr j d hd hG hj) (cwV 2 hts gL_law_X1_ties rfl rfl rfl (by decide +kernel) ⟨Nat.le_of_ble_eq_true rfl, Nat.le_of_ble_eq_true rfl⟩) ⟨blindW, va_recv hKg (pR hP) (ci := 1) (q0 := 0) rfl rfl, preW (pR hP) hKg (dR hD)⟩ rfl rfl hl.1 rfl (lv_room (Nat.le_of_ble_eq_true rfl)) dL_law_693 hc0) hS (fun q _ h => hF q h) hF (fun r_ u1 tS H1 locs htS hvm hw hB9 hz1 hk1 hS => ?_)
    obtain ⟨hP1, hK1, hD1⟩ := hB9
    rw [htS] at hP1
    obtain ⟨hP, hD⟩ := joinR hP hD hk1 hF hP1 hD1
    generalize H1 = H at hP hS ⊢
    obtain rfl : r_ = nI (tie cf tf (vv wv lo cf tf) j d) := hw
    have hP : va_P (dC, dI) vwCl ((XW cI cZ cA a n am (u.1) mk wv lo cf tf (u.2) mt im ++ OW o cJ (vp_updL fo 0 (nI (tie cf tf (vv wv lo cf tf) j d)).toInt64)) ++ MW cI cZ ad 0 n wv lo cf tf u1 nr) H := hP
    have hD : va_D (fun q : Nat => s.heap.size ≤ q) ((XW cI cZ cA a n am (u.1) mk wv lo cf tf (u.2) mt im ++ OW o cJ (vp_updL fo 0 (nI (tie cf tf (vv wv lo cf tf) j d)).toInt64)) ++ MW cI cZ ad 0 n wv lo cf tf u1 nr) := hD
    refine W.eq (g2 := F0 m 696 ls [.int (nI (tie cf tf (vv wv lo cf tf) j d))]) rfl ?_
    refine lv_istore (lv' := [(6, .int (nI (tie cf tf (vv wv lo cf tf) j d))), (5, .int 0), (0, .ref b), (1, .ref (a 0)), (2, .ref (ad 0)), (3, .ref o), (4, .int (nI i))]) hx hb dL_law_696 hl (by decide) rfl (fun ls hl => ?_)
    refine lv_aload_n hx hb dL_law_698 rfl (lv_at hl 4 rfl) ?_
    refine W.callR (r := nI 0) (W.runV (As := []) (rest := []) ⟨hx, hb, hml, hown, hts⟩ (kX1_thrown l dC dI cI cZ cA ad 0 n wv lo cf tf u1 nr ) (cwV 0 hts gL_law_X1_thrown rfl rfl rfl (by decide +kernel) ⟨Nat.le_of_ble_eq_true rfl, Nat.le_of_ble_eq_true rfl⟩) ⟨blindR, va_recv hKg (pR hP) (ci := 1) (q0 := 0) rfl rfl, preR (pR hP) hKg⟩ rfl rfl hl.1 rfl (lv_room (Nat.le_of_ble_eq_true rfl)) dL_law_699 hc0) ?_
    refine W.eq (g2 := F0 m 702 ls [.int (nI 0)]) rfl ?_
    refine lv_iload hx hb dL_law_702 (lv_at hl 1 rfl) ?_
    refine lv_icmp_eq (tgt := 709) hx hb dL_law_704 (by decide) (fun hq1 => ?_) (fun hq1 => absurd (show nI 0 = 0 from rfl) hq1)
    refine lv_iload hx hb dL_law_709 (lv_at hl 1 rfl) ?_
    refine lv_if_ne (tgt := 726) hx hb dL_law_711 (by decide) (fun hq2 => absurd (rfl : (0 : Int32) = 0) hq2) (fun hq2 => ?_)
    refine lv_aload_n hx hb dL_law_714 rfl (lv_at hl 5 rfl) ?_
    refine lv_iconst (v := 0) hx hb dL_law_715 (by decide) ?_
    refine va_lald hx hb hK (pL hP) 16 3 OW_at rfl in_0 dL_law_716 ?_
    rw [sb_cl0, pk_uLs]
    refine lv_iload hx hb dL_law_717 (lv_at hl 0 rfl) ?_
    refine lv_i2l hx hb dL_law_719 rfl ?_
    refine W.lcmp hx hb dL_law_720 ?_
    rw [lcmp_self]
    refine lv_if_eq (tgt := 726) hx hb dL_law_721 (by decide) (fun hq3 => ?_) (fun hq3 => absurd (rfl : (0 : Int32) = 0) hq3)
    refine lv_goto (tgt := 927) hx hb dL_law_726 (by decide) ?_
    refine W.widen (k := cells + 1) (n := slots + 6) (by omega) (by omega) ?_
    exact nx n am (u.1) mk wv lo cf tf (u.2) mt im 0 u1 nr (vp_updL fo 0 (nI (tie cf tf (vv wv lo cf tf) j d)).toInt64) (⟨hG, hsu, hM, hsm⟩) H locs hP hD hS ls (lv_sub hl [2, 3, 4, 5, 6] rfl)
set_option maxHeartbeats 4000000 in
set_option maxRecDepth 100000 in
theorem law_settled {p : Program} {l : Launch} {e : Env} {s : State} {m : MethodId} {below : List Frame} {meth : Method} {c : Code} {b L : Nat} {xs : Nat → Int32} (hL : L ≤ 2049) (C0 : lw_At p s m meth c b L xs) (hl9 : l.stackTraces = false) {dC : Nat → ClassId} {dI : Nat → Nat → Nat} {cI cZ cA cJ : ClassId} {sa : Nat → Nat} (hK : va_K (dC, dI) vwCl (GJ cI cZ cA cJ) s) (hE : EX sa (fun q : Nat => s.heap.size ≤ q) s s.heap) {a ad : Nat → Nat} {o i : Nat} (hi : i + 4 ≤ L) {cells slots : Nat} (hcs : cells + 1 ≤ 601024 ∧ slots + 6 ≤ 7293000) (nx : LNx p l e s m below meth c b dC dI cI cZ cA cJ a ad o i (cells + 1) (slots + 6)) (n am rf mk : Nat) (wv lo : Nat → Int32) (cf tf : Nat → Nat) (T : Nat → Nat → Int32) (mt : Nat → Nat) (im : Nat → Int32) (th : Nat) (vs : Nat → Int32) (nr : Nat → Nat) (fo : Nat → Int64) (hI : LInv n am rf mk wv lo cf tf T mt im) (H : Heap) (locs : List Loc) (hP : va_P (dC, dI) vwCl ((XW cI cZ cA a n am rf mk wv lo cf tf T mt im ++ OW o cJ fo) ++ MW cI cZ ad th n wv lo cf tf vs nr) H) (hD : va_D (fun q : Nat => s.heap.size ≤ q) ((XW cI cZ cA a n am rf mk wv lo cf tf T mt im ++ OW o cJ fo) ++ MW cI cZ ad th n wv lo cf tf vs nr)) (hS : va_S (fun q : Nat => s.heap.size ≤ q) s.heap H locs) (ls : Array Slot) (hl : lv_has ls 7 [(0, .ref b), (1, .ref (a 0)), (2, .ref (ad 0)), (3, .ref o), (4, .int (nI i))]) : W p l e room_1 s m #[Value.ref b] below meth c H locs cells slots (lw_Z below #[Value.ref b] s) (F0 m 729 ls []) := by
  obtain ⟨hx, hb, hr, hml, hown, hts0, hX, hbl, hlocks, hgv⟩ := C0
  have hts : ∀ w ∈ wsL_law, w.before #[Value.ref b] s = true := fun w h => hts0 w (wsL_law_in w h)
  have hown : s.vm.findClass RL = some m.cls := hown
  have hA : ∀ q : Nat, s.heap.size ≤ q → (fun q : Nat => s.heap.size ≤ q) q := fun _ h => h
  have hbA : ¬ (fun q : Nat => s.heap.size ≤ q) b := Nat.not_le.mpr hbl
  have hKg := hK.sub (tys' := GT cI cZ cA) [0, 1, 2] rfl
  obtain ⟨hG, hT, hM, hsm⟩ := id hI
  obtain ⟨hn4, hwr, hc, htt, hlo, hz0⟩ := id hG
  have hc0 : cells + 0 ≤ room_1.cells ∧ slots + 0 ≤ room_1.slots := ⟨by show cells + 0 ≤ 601024; omega, by show slots + 0 ≤ 7293000; omega⟩
  have hc1 : cells + 1 ≤ room_1.cells ∧ slots + 6 ≤ room_1.slots := hcs
  have hc2 : cells + 1 + 0 ≤ room_1.cells ∧ slots + 6 + 0 ≤ room_1.slots := hcs
  rcases ask_or (n := n) (by omega) (xs (i + 1)) (xs (i + 2)) with hB | ⟨j, d, hj, hd, hv1, hv2⟩
  · refine lv_aload_n hx hb dL_law_729 rfl (lv_at hl 1 rfl) ?_
    refine lv_aload_n hx hb dL_law_730 rfl (lv_at hl 0 rfl) ?_
    refine lv_iload hx hb dL_law_731 (lv_at hl 4 rfl) ?_
    refine lv_iconst (v := 1) hx hb dL_law_733 (by decide) ?_
    refine lv_iadd hx hb dL_law_734 ?_
    refine ga_is (y := nI (i + 1)) (nI_add i 1) ?_
    refine ga_sld hx hb hX hbl hbA hS (i + 1) (by omega) hL dL_law_735 ?_
    refine lv_aload_n hx hb dL_law_736 rfl (lv_at hl 0 rfl) ?_
    refine lv_iload hx hb dL_law_737 (lv_at hl 4 rfl) ?_
    refine lv_iconst (v := 2) hx hb dL_law_739 (by decide) ?_
    refine lv_iadd hx hb dL_law_740 ?_
    refine ga_is (y := nI (i + 2)) (nI_add i 2) ?_
    refine ga_sld hx hb hX hbl hbA hS (i + 2) (by omega) hL dL_law_741 ?_
    refine lv_aload_n hx hb dL_law_742 rfl (lv_at hl 3 rfl) ?_
    refine va_calli (A0 := (fun q : Nat => s.heap.size ≤ q)) (H0 := s.heap) (vx_runSW (As := [.ref (a 0), .int (xs (i + 1)), .int (xs (i + 2)), .ref o]) (rest := []) ⟨hx, hb, hml, hown, hts⟩ (nL_settled l hl9 dC dI cI cZ cA cJ a o fo H.size sa n am rf mk wv lo cf tf T mt im (xs (i + 1)) (xs (i + 2)) hB) (vx_cwSW 4 hts gL_law_L_settled rfl rfl rfl (by decide +kernel) ⟨Nat.le_of_ble_eq_true rfl, Nat.le_of_ble_eq_true rfl⟩) ⟨blindTP, preTP (pL hP) hK ((hE.kept hS.2.1).narrow (fun _ h => h.elim))⟩ rfl rfl hl.1 rfl (lv_room (Nat.le_of_ble_eq_true rfl)) dL_law_743 hc1) hS (fun q _ h => Nat.le_trans hS.1 h) (fun q h => Nat.le_trans hS.1 h) (fun r_ u tS H1 locs htS hvm hw hB9 hz1 hk1 hS => ?_)
    have hP := keepN hP hk1
    generalize H1 = H at hP hS ⊢
    obtain rfl : r_ = 1 := hw
    refine W.eq (g2 := F0 m 746 ls [.int 1]) rfl ?_
    refine lv_istore (lv' := [(5, .int 1), (0, .ref b), (1, .ref (a 0)), (2, .ref (ad 0)), (3, .ref o), (4, .int (nI i))]) hx hb dL_law_746 hl (by decide) rfl (fun ls hl => ?_)
    refine lv_aload_n hx hb dL_law_748 rfl (lv_at hl 3 rfl) ?_
    refine lv_aload_n hx hb dL_law_749 rfl (lv_at hl 1 rfl) ?_
    refine lv_iload hx hb dL_law_750 (lv_at hl 5 rfl) ?_
    refine lv_iconst (v := 1) hx hb dL_law_752 (by decide) ?_
    refine lv_iadd hx hb dL_law_753 ?_
    refine ga_is (y := nI (i + 1)) (nI_add i 1) ?_
    refine ga_sld hx hb hX hbl hbA hS (i + 1) (by omega) hL dL_law_754 ?_
    refine lv_aload_n hx hb dL_law_755 rfl (lv_at hl 1 rfl) ?_
    refine lv_iload hx hb dL_law_756 (lv_at hl 5 rfl) ?_
    refine lv_iconst (v := 2) hx hb dL_law_758 (by decide) ?_
    refine lv_iadd hx hb dL_law_759 ?_
    refine ga_is (y := nI (i + 2)) (nI_add i 2) ?_
    refine ga_sld hx hb hX hbl hbA hS (i + 2) (by omega) hL dL_law_760 ?_
    have hF := freeR hD hS hA
    refine va_calli (va_runV (As := [.int (xs (i + 1)), .int (xs (i + 2))]) (rest := []) ⟨hx, hb, hml, hown, hts⟩ (kX1_settled_no l dC dI cI cZ cA ad H.size th n wv lo cf tf vs nr (xs (i + 1)) (xs (i + 2)) hB) (cwV 2 hts gL_law_X1_settled rfl rfl rfl (by decide +kernel) ⟨Nat.le_of_ble_eq_true rfl, Nat.le_of_ble_eq_true rfl⟩) ⟨blindW, va_recv hKg (pR hP) (ci := 1) (q0 := 0) rfl rfl, preW (pR hP) hKg (dR hD)⟩ rfl rfl hl.1 rfl (lv_room (Nat.le_of_ble_eq_true rfl)) dL_law_761 hc2) hS (fun q _ h => hF q h) hF (fun r_ u tS H1 locs htS hvm hw hB9 hz1 hk1 hS => ?_)
    obtain ⟨hP1, hK1, hD1⟩ := hB9
    rw [htS] at hP1
    obtain ⟨hP, hD⟩ := joinR hP hD hk1 hF hP1 hD1
    generalize H1 = H at hP hS ⊢
    obtain rfl : r_ = 0 := hw
    have hP : va_P (dC, dI) vwCl ((XW cI cZ cA a n am rf mk wv lo cf tf T mt im ++ OW o cJ fo) ++ MW cI cZ ad 1 n wv lo cf tf vs nr) H := hP
    have hD : va_D (fun q : Nat => s.heap.size ≤ q) ((XW cI cZ cA a n am rf mk wv lo cf tf T mt im ++ OW o cJ fo) ++ MW cI cZ ad 1 n wv lo cf tf vs nr) := hD
    refine W.eq (g2 := F0 m 764 ls [.int 0]) rfl ?_
    refine lv_istore (lv' := [(6, .int 0), (5, .int 1), (0, .ref b), (1, .ref (a 0)), (2, .ref (ad 0)), (3, .ref o), (4, .int (nI i))]) hx hb dL_law_764 hl (by decide) rfl (fun ls hl => ?_)
    refine lv_aload_n hx hb dL_law_766 rfl (lv_at hl 4 rfl) ?_
    refine W.callR (r := nI 1) (W.runV (As := []) (rest := []) ⟨hx, hb, hml, hown, hts⟩ (kX1_thrown l dC dI cI cZ cA ad 1 n wv lo cf tf vs nr ) (cwV 0 hts gL_law_X1_thrown rfl rfl rfl (by decide +kernel) ⟨Nat.le_of_ble_eq_true rfl, Nat.le_of_ble_eq_true rfl⟩) ⟨blindR, va_recv hKg (pR hP) (ci := 1) (q0 := 0) rfl rfl, preR (pR hP) hKg⟩ rfl rfl hl.1 rfl (lv_room (Nat.le_of_ble_eq_true rfl)) dL_law_767 hc2) ?_
    refine W.eq (g2 := F0 m 770 ls [.int (nI 1)]) rfl ?_
    refine lv_iload hx hb dL_law_770 (lv_at hl 1 rfl) ?_
    refine lv_icmp_eq (tgt := 777) hx hb dL_law_772 (by decide) (fun hq1 => ?_) (fun hq1 => absurd (show nI 1 = 1 from rfl) hq1)
    refine lv_iload hx hb dL_law_777 (lv_at hl 1 rfl) ?_
    refine lv_if_ne (tgt := 794) hx hb dL_law_779 (by decide) (fun hq2 => ?_) (fun hq2 => absurd hq2 (by decide))
    refine lv_goto (tgt := 927) hx hb dL_law_794 (by decide) ?_
    exact nx n am rf mk wv lo cf tf T mt im 1 vs nr fo (hI) H locs hP hD hS ls (lv_sub hl [2, 3, 4, 5, 6] rfl)
  · refine lv_aload_n hx hb dL_law_729 rfl (lv_at hl 1 rfl) ?_
    refine lv_aload_n hx hb dL_law_730 rfl (lv_at hl 0 rfl) ?_
    refine lv_iload hx hb dL_law_731 (lv_at hl 4 rfl) ?_
    refine lv_iconst (v := 1) hx hb dL_law_733 (by decide) ?_
    refine lv_iadd hx hb dL_law_734 ?_
    refine ga_is (y := nI (i + 1)) (nI_add i 1) ?_
    refine ga_sld hx hb hX hbl hbA hS (i + 1) (by omega) hL dL_law_735 ?_
    refine ga_is (y := nI j) (hv1) ?_
    refine lv_aload_n hx hb dL_law_736 rfl (lv_at hl 0 rfl) ?_
    refine lv_iload hx hb dL_law_737 (lv_at hl 4 rfl) ?_
    refine lv_iconst (v := 2) hx hb dL_law_739 (by decide) ?_
    refine lv_iadd hx hb dL_law_740 ?_
    refine ga_is (y := nI (i + 2)) (nI_add i 2) ?_
    refine ga_sld hx hb hX hbl hbA hS (i + 2) (by omega) hL dL_law_741 ?_
    refine ga_is (y := nI d) (hv2) ?_
    refine lv_aload_n hx hb dL_law_742 rfl (lv_at hl 3 rfl) ?_
    have hF := freeL hD hS hA
    refine va_calli (vx_runSW (As := [.ref (a 0), .int (nI j), .int (nI d), .ref o]) (rest := []) ⟨hx, hb, hml, hown, hts⟩ (kL_settled l dC dI cI cZ cA cJ a o fo H.size n am rf mk wv lo cf tf T mt im j d hd hG hT hj) (vx_cwSW 4 hts gL_law_L_settled rfl rfl rfl (by decide +kernel) ⟨Nat.le_of_ble_eq_true rfl, Nat.le_of_ble_eq_true rfl⟩) ⟨blindW, preW (pL hP) hK (dL hD)⟩ rfl rfl hl.1 rfl (lv_room (Nat.le_of_ble_eq_true rfl)) dL_law_743 hc0) hS (fun q _ h => hF q h) hF (fun r_ u tS H1 locs htS hvm hw hB9 hz1 hk1 hS => ?_)
    obtain ⟨hP1, hK1, hD1⟩ := hB9
    rw [htS] at hP1
    obtain ⟨hP, hD⟩ := joinL hP hD hk1 hF hP1 hD1
    generalize H1 = H at hP hS ⊢
    obtain ⟨rfl, hsu⟩ := hw
    have hP : va_P (dC, dI) vwCl ((XW cI cZ cA a n am (u.1) mk wv lo cf tf (u.2) mt im ++ OW o cJ (vp_updL fo 0 (nI (set_ (fun e => vv wv lo cf tf e j) (vv wv lo cf tf d j) d)).toInt64)) ++ MW cI cZ ad th n wv lo cf tf vs nr) H := hP
    have hD : va_D (fun q : Nat => s.heap.size ≤ q) ((XW cI cZ cA a n am (u.1) mk wv lo cf tf (u.2) mt im ++ OW o cJ (vp_updL fo 0 (nI (set_ (fun e => vv wv lo cf tf e j) (vv wv lo cf tf d j) d)).toInt64)) ++ MW cI cZ ad th n wv lo cf tf vs nr) := hD
    refine W.eq (g2 := F0 m 746 ls [.int 0]) rfl ?_
    refine lv_istore (lv' := [(5, .int 0), (0, .ref b), (1, .ref (a 0)), (2, .ref (ad 0)), (3, .ref o), (4, .int (nI i))]) hx hb dL_law_746 hl (by decide) rfl (fun ls hl => ?_)
    refine lv_aload_n hx hb dL_law_748 rfl (lv_at hl 3 rfl) ?_
    refine lv_aload_n hx hb dL_law_749 rfl (lv_at hl 1 rfl) ?_
    refine lv_iload hx hb dL_law_750 (lv_at hl 5 rfl) ?_
    refine lv_iconst (v := 1) hx hb dL_law_752 (by decide) ?_
    refine lv_iadd hx hb dL_law_753 ?_
    refine ga_is (y := nI (i + 1)) (nI_add i 1) ?_
    refine ga_sld hx hb hX hbl hbA hS (i + 1) (by omega) hL dL_law_754 ?_
    refine ga_is (y := nI j) (hv1) ?_
    refine lv_aload_n hx hb dL_law_755 rfl (lv_at hl 1 rfl) ?_
    refine lv_iload hx hb dL_law_756 (lv_at hl 5 rfl) ?_
    refine lv_iconst (v := 2) hx hb dL_law_758 (by decide) ?_
    refine lv_iadd hx hb dL_law_759 ?_
    refine ga_is (y := nI (i + 2)) (nI_add i 2) ?_
    refine ga_sld hx hb hX hbl hbA hS (i + 2) (by omega) hL dL_law_760 ?_
    refine ga_is (y := nI d) (hv2) ?_
    have hF := freeR hD hS hA
    refine va_calli (va_runV (As := [.int (nI j), .int (nI d)]) (rest := []) ⟨hx, hb, hml, hown, hts⟩ (kX1_settled l dC dI cI cZ cA ad H.size th n wv lo cf tf vs nr j d hd hG hj) (cwV 2 hts gL_law_X1_settled rfl rfl rfl (by decide +kernel) ⟨Nat.le_of_ble_eq_true rfl, Nat.le_of_ble_eq_true rfl⟩) ⟨blindW, va_recv hKg (pR hP) (ci := 1) (q0 := 0) rfl rfl, preW (pR hP) hKg (dR hD)⟩ rfl rfl hl.1 rfl (lv_room (Nat.le_of_ble_eq_true rfl)) dL_law_761 hc0) hS (fun q _ h => hF q h) hF (fun r_ u1 tS H1 locs htS hvm hw hB9 hz1 hk1 hS => ?_)
    obtain ⟨hP1, hK1, hD1⟩ := hB9
    rw [htS] at hP1
    obtain ⟨hP, hD⟩ := joinR hP hD hk1 hF hP1 hD1
    generalize H1 = H at hP hS ⊢
    obtain rfl : r_ = nI (set_ (fun e => vv wv lo cf tf e j) (vv wv lo cf tf d j) d) := hw
    have hP : va_P (dC, dI) vwCl ((XW cI cZ cA a n am (u.1) mk wv lo cf tf (u.2) mt im ++ OW o cJ (vp_updL fo 0 (nI (set_ (fun e => vv wv lo cf tf e j) (vv wv lo cf tf d j) d)).toInt64)) ++ MW cI cZ ad 0 n wv lo cf tf u1 nr) H := hP
    have hD : va_D (fun q : Nat => s.heap.size ≤ q) ((XW cI cZ cA a n am (u.1) mk wv lo cf tf (u.2) mt im ++ OW o cJ (vp_updL fo 0 (nI (set_ (fun e => vv wv lo cf tf e j) (vv wv lo cf tf d j) d)).toInt64)) ++ MW cI cZ ad 0 n wv lo cf tf u1 nr) := hD
    refine W.eq (g2 := F0 m 764 ls [.int (nI (set_ (fun e => vv wv lo cf tf e j) (vv wv lo cf tf d j) d))]) rfl ?_
    refine lv_istore (lv' := [(6, .int (nI (set_ (fun e => vv wv lo cf tf e j) (vv wv lo cf tf d j) d))), (5, .int 0), (0, .ref b), (1, .ref (a 0)), (2, .ref (ad 0)), (3, .ref o), (4, .int (nI i))]) hx hb dL_law_764 hl (by decide) rfl (fun ls hl => ?_)
    refine lv_aload_n hx hb dL_law_766 rfl (lv_at hl 4 rfl) ?_
    refine W.callR (r := nI 0) (W.runV (As := []) (rest := []) ⟨hx, hb, hml, hown, hts⟩ (kX1_thrown l dC dI cI cZ cA ad 0 n wv lo cf tf u1 nr ) (cwV 0 hts gL_law_X1_thrown rfl rfl rfl (by decide +kernel) ⟨Nat.le_of_ble_eq_true rfl, Nat.le_of_ble_eq_true rfl⟩) ⟨blindR, va_recv hKg (pR hP) (ci := 1) (q0 := 0) rfl rfl, preR (pR hP) hKg⟩ rfl rfl hl.1 rfl (lv_room (Nat.le_of_ble_eq_true rfl)) dL_law_767 hc0) ?_
    refine W.eq (g2 := F0 m 770 ls [.int (nI 0)]) rfl ?_
    refine lv_iload hx hb dL_law_770 (lv_at hl 1 rfl) ?_
    refine lv_icmp_eq (tgt := 777) hx hb dL_law_772 (by decide) (fun hq1 => ?_) (fun hq1 => absurd (show nI 0 = 0 from rfl) hq1)
    refine lv_iload hx hb dL_law_777 (lv_at hl 1 rfl) ?_
    refine lv_if_ne (tgt := 794) hx hb dL_law_779 (by decide) (fun hq2 => absurd (rfl : (0 : Int32) = 0) hq2) (fun hq2 => ?_)
    refine lv_aload_n hx hb dL_law_782 rfl (lv_at hl 5 rfl) ?_
    refine lv_iconst (v := 0) hx hb dL_law_783 (by decide) ?_
    refine va_lald hx hb hK (pL hP) 16 3 OW_at rfl in_0 dL_law_784 ?_
    rw [sb_cl0, pk_uLs]
    refine lv_iload hx hb dL_law_785 (lv_at hl 0 rfl) ?_
    refine lv_i2l hx hb dL_law_787 rfl ?_
    refine W.lcmp hx hb dL_law_788 ?_
    rw [lcmp_self]
    refine lv_if_eq (tgt := 794) hx hb dL_law_789 (by decide) (fun hq3 => ?_) (fun hq3 => absurd (rfl : (0 : Int32) = 0) hq3)
    refine lv_goto (tgt := 927) hx hb dL_law_794 (by decide) ?_
    refine W.widen (k := cells + 1) (n := slots + 6) (by omega) (by omega) ?_
    exact nx n am (u.1) mk wv lo cf tf (u.2) mt im 0 u1 nr (vp_updL fo 0 (nI (set_ (fun e => vv wv lo cf tf e j) (vv wv lo cf tf d j) d)).toInt64) (⟨hG, hsu, hM, hsm⟩) H locs hP hD hS ls (lv_sub hl [2, 3, 4, 5, 6] rfl)
