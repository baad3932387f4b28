set_option maxHeartbeats 4000000 in
set_option maxRecDepth 100000 in
theorem law_reaches {p : Program} {l : Launch} {e : Env} {s : State} {m : MethodId} {below : List Frame} {meth : Method} {c : Code} {b L : Nat} {xs : Nat → Int32} (hL : L ≤ 2049) (C0 : lw_At p s m meth c b L xs) (hl9 : l.stackTraces = false) {dC : Nat → ClassId} {dI : Nat → Nat → Nat} {cI cZ cA cJ : ClassId} {sa : Nat → Nat} (hK : va_K (dC, dI) vwCl (GJ cI cZ cA cJ) s) (hE : EX sa (fun q : Nat => s.heap.size ≤ q) s s.heap) {a ad : Nat → Nat} {o i : Nat} (hi : i + 4 ≤ L) {cells slots : Nat} (hcs : cells + 1 ≤ 601024 ∧ slots + 6 ≤ 7293000) (nx : LNx p l e s m below meth c b dC dI cI cZ cA cJ a ad o i (cells + 1) (slots + 6)) (n am rf mk : Nat) (wv lo : Nat → Int32) (cf tf : Nat → Nat) (T : Nat → Nat → Int32) (mt : Nat → Nat) (im : Nat → Int32) (th : Nat) (vs : Nat → Int32) (nr : Nat → Nat) (fo : Nat → Int64) (hI : LInv n am rf mk wv lo cf tf T mt im) (H : Heap) (locs : List Loc) (hP : va_P (dC, dI) vwCl ((XW cI cZ cA a n am rf mk wv lo cf tf T mt im ++ OW o cJ fo) ++ MW cI cZ ad th n wv lo cf tf vs nr) H) (hD : va_D (fun q : Nat => s.heap.size ≤ q) ((XW cI cZ cA a n am rf mk wv lo cf tf T mt im ++ OW o cJ fo) ++ MW cI cZ ad th n wv lo cf tf vs nr)) (hS : va_S (fun q : Nat => s.heap.size ≤ q) s.heap H locs) (ls : Array Slot) (hl : lv_has ls 7 [(0, .ref b), (1, .ref (a 0)), (2, .ref (ad 0)), (3, .ref o), (4, .int (nI i))]) : W p l e room_1 s m #[Value.ref b] below meth c H locs cells slots (lw_Z below #[Value.ref b] s) (F0 m 494 ls []) := by
  obtain ⟨hx, hb, hr, hml, hown, hts0, hX, hbl, hlocks, hgv⟩ := C0
  have hts : ∀ w ∈ wsL_law, w.before #[Value.ref b] s = true := fun w h => hts0 w (wsL_law_in w h)
  have hown : s.vm.findClass RL = some m.cls := hown
  have hA : ∀ q : Nat, s.heap.size ≤ q → (fun q : Nat => s.heap.size ≤ q) q := fun _ h => h
  have hbA : ¬ (fun q : Nat => s.heap.size ≤ q) b := Nat.not_le.mpr hbl
  have hKg := hK.sub (tys' := GT cI cZ cA) [0, 1, 2] rfl
  obtain ⟨hG, hT, hM, hsm⟩ := id hI
  obtain ⟨hn4, hwr, hc, htt, hlo, hz0⟩ := id hG
  have hc0 : cells + 0 ≤ room_1.cells ∧ slots + 0 ≤ room_1.slots := ⟨by show cells + 0 ≤ 601024; omega, by show slots + 0 ≤ 7293000; omega⟩
  have hc1 : cells + 1 ≤ room_1.cells ∧ slots + 6 ≤ room_1.slots := hcs
  have hc2 : cells + 1 + 0 ≤ room_1.cells ∧ slots + 6 + 0 ≤ room_1.slots := hcs
  rcases ask_or (n := n) (by omega) (xs (i + 1)) (xs (i + 2)) with hB | ⟨j, d, hj, hd, hv1, hv2⟩
  · refine lv_aload_n hx hb dL_law_494 rfl (lv_at hl 1 rfl) ?_
    refine lv_aload_n hx hb dL_law_495 rfl (lv_at hl 0 rfl) ?_
    refine lv_iload hx hb dL_law_496 (lv_at hl 4 rfl) ?_
    refine lv_iconst (v := 1) hx hb dL_law_498 (by decide) ?_
    refine lv_iadd hx hb dL_law_499 ?_
    refine ga_is (y := nI (i + 1)) (nI_add i 1) ?_
    refine ga_sld hx hb hX hbl hbA hS (i + 1) (by omega) hL dL_law_500 ?_
    refine lv_aload_n hx hb dL_law_501 rfl (lv_at hl 0 rfl) ?_
    refine lv_iload hx hb dL_law_502 (lv_at hl 4 rfl) ?_
    refine lv_iconst (v := 2) hx hb dL_law_504 (by decide) ?_
    refine lv_iadd hx hb dL_law_505 ?_
    refine ga_is (y := nI (i + 2)) (nI_add i 2) ?_
    refine ga_sld hx hb hX hbl hbA hS (i + 2) (by omega) hL dL_law_506 ?_
    refine lv_aload_n hx hb dL_law_507 rfl (lv_at hl 0 rfl) ?_
    refine lv_iload hx hb dL_law_508 (lv_at hl 4 rfl) ?_
    refine lv_iconst (v := 3) hx hb dL_law_510 (by decide) ?_
    refine lv_iadd hx hb dL_law_511 ?_
    refine ga_is (y := nI (i + 3)) (nI_add i 3) ?_
    refine ga_sld hx hb hX hbl hbA hS (i + 3) (by omega) hL dL_law_512 ?_
    refine lv_aload_n hx hb dL_law_513 rfl (lv_at hl 3 rfl) ?_
    refine va_calli (A0 := (fun q : Nat => s.heap.size ≤ q)) (H0 := s.heap) (vx_runSW (As := [.ref (a 0), .int (xs (i + 1)), .int (xs (i + 2)), .int (xs (i + 3)), .ref o]) (rest := []) ⟨hx, hb, hml, hown, hts⟩ (nL_reaches l hl9 dC dI cI cZ cA cJ a o fo H.size sa n am rf mk wv lo cf tf T mt im (xs (i + 1)) (xs (i + 2)) (xs (i + 3)) hB) (vx_cwSW 5 hts gL_law_L_reaches rfl rfl rfl (by decide +kernel) ⟨Nat.le_of_ble_eq_true rfl, Nat.le_of_ble_eq_true rfl⟩) ⟨blindTP, preTP (pL hP) hK ((hE.kept hS.2.1).narrow (fun _ h => h.elim))⟩ rfl rfl hl.1 rfl (lv_room (Nat.le_of_ble_eq_true rfl)) dL_law_514 hc1) hS (fun q _ h => Nat.le_trans hS.1 h) (fun q h => Nat.le_trans hS.1 h) (fun r_ u tS H1 locs htS hvm hw hB9 hz1 hk1 hS => ?_)
    have hP := keepN hP hk1
    generalize H1 = H at hP hS ⊢
    obtain rfl : r_ = 1 := hw
    refine W.eq (g2 := F0 m 517 ls [.int 1]) rfl ?_
    refine lv_istore (lv' := [(5, .int 1), (0, .ref b), (1, .ref (a 0)), (2, .ref (ad 0)), (3, .ref o), (4, .int (nI i))]) hx hb dL_law_517 hl (by decide) rfl (fun ls hl => ?_)
    refine lv_aload_n hx hb dL_law_519 rfl (lv_at hl 3 rfl) ?_
    refine lv_aload_n hx hb dL_law_520 rfl (lv_at hl 1 rfl) ?_
    refine lv_iload hx hb dL_law_521 (lv_at hl 5 rfl) ?_
    refine lv_iconst (v := 1) hx hb dL_law_523 (by decide) ?_
    refine lv_iadd hx hb dL_law_524 ?_
    refine ga_is (y := nI (i + 1)) (nI_add i 1) ?_
    refine ga_sld hx hb hX hbl hbA hS (i + 1) (by omega) hL dL_law_525 ?_
    refine lv_aload_n hx hb dL_law_526 rfl (lv_at hl 1 rfl) ?_
    refine lv_iload hx hb dL_law_527 (lv_at hl 5 rfl) ?_
    refine lv_iconst (v := 2) hx hb dL_law_529 (by decide) ?_
    refine lv_iadd hx hb dL_law_530 ?_
    refine ga_is (y := nI (i + 2)) (nI_add i 2) ?_
    refine ga_sld hx hb hX hbl hbA hS (i + 2) (by omega) hL dL_law_531 ?_
    refine lv_aload_n hx hb dL_law_532 rfl (lv_at hl 1 rfl) ?_
    refine lv_iload hx hb dL_law_533 (lv_at hl 5 rfl) ?_
    refine lv_iconst (v := 3) hx hb dL_law_535 (by decide) ?_
    refine lv_iadd hx hb dL_law_536 ?_
    refine ga_is (y := nI (i + 3)) (nI_add i 3) ?_
    refine ga_sld hx hb hX hbl hbA hS (i + 3) (by omega) hL dL_law_537 ?_
    have hF := freeR hD hS hA
    refine va_calli (va_runV (As := [.int (xs (i + 1)), .int (xs (i + 2)), .int (xs (i + 3))]) (rest := []) ⟨hx, hb, hml, hown, hts⟩ (kX1_reaches_no l dC dI cI cZ cA ad H.size th n wv lo cf tf vs nr (xs (i + 1)) (xs (i + 2)) (xs (i + 3)) hB) (cwV 3 hts gL_law_X1_reaches rfl rfl rfl (by decide +kernel) ⟨Nat.le_of_ble_eq_true rfl, Nat.le_of_ble_eq_true rfl⟩) ⟨blindW, va_recv hKg (pR hP) (ci := 1) (q0 := 0) rfl rfl, preW (pR hP) hKg (dR hD)⟩ rfl rfl hl.1 rfl (lv_room (Nat.le_of_ble_eq_true rfl)) dL_law_538 hc2) hS (fun q _ h => hF q h) hF (fun r_ u tS H1 locs htS hvm hw hB9 hz1 hk1 hS => ?_)
    obtain ⟨hP1, hK1, hD1⟩ := hB9
    rw [htS] at hP1
    obtain ⟨hP, hD⟩ := joinR hP hD hk1 hF hP1 hD1
    generalize H1 = H at hP hS ⊢
    obtain rfl : r_ = 0 := hw
    have hP : va_P (dC, dI) vwCl ((XW cI cZ cA a n am rf mk wv lo cf tf T mt im ++ OW o cJ fo) ++ MW cI cZ ad 1 n wv lo cf tf vs nr) H := hP
    have hD : va_D (fun q : Nat => s.heap.size ≤ q) ((XW cI cZ cA a n am rf mk wv lo cf tf T mt im ++ OW o cJ fo) ++ MW cI cZ ad 1 n wv lo cf tf vs nr) := hD
    refine W.eq (g2 := F0 m 541 ls [.int 0]) rfl ?_
    refine lv_istore (lv' := [(6, .int 0), (5, .int 1), (0, .ref b), (1, .ref (a 0)), (2, .ref (ad 0)), (3, .ref o), (4, .int (nI i))]) hx hb dL_law_541 hl (by decide) rfl (fun ls hl => ?_)
    refine lv_aload_n hx hb dL_law_543 rfl (lv_at hl 4 rfl) ?_
    refine W.callR (r := nI 1) (W.runV (As := []) (rest := []) ⟨hx, hb, hml, hown, hts⟩ (kX1_thrown l dC dI cI cZ cA ad 1 n wv lo cf tf vs nr ) (cwV 0 hts gL_law_X1_thrown rfl rfl rfl (by decide +kernel) ⟨Nat.le_of_ble_eq_true rfl, Nat.le_of_ble_eq_true rfl⟩) ⟨blindR, va_recv hKg (pR hP) (ci := 1) (q0 := 0) rfl rfl, preR (pR hP) hKg⟩ rfl rfl hl.1 rfl (lv_room (Nat.le_of_ble_eq_true rfl)) dL_law_544 hc2) ?_
    refine W.eq (g2 := F0 m 547 ls [.int (nI 1)]) rfl ?_
    refine lv_iload hx hb dL_law_547 (lv_at hl 1 rfl) ?_
    refine lv_icmp_eq (tgt := 554) hx hb dL_law_549 (by decide) (fun hq1 => ?_) (fun hq1 => absurd (show nI 1 = 1 from rfl) hq1)
    refine lv_iload hx hb dL_law_554 (lv_at hl 1 rfl) ?_
    refine lv_if_ne (tgt := 578) hx hb dL_law_556 (by decide) (fun hq2 => ?_) (fun hq2 => absurd hq2 (by decide))
    refine lv_goto (tgt := 927) hx hb dL_law_578 (by decide) ?_
    exact nx n am rf mk wv lo cf tf T mt im 1 vs nr fo (hI) H locs hP hD hS ls (lv_sub hl [2, 3, 4, 5, 6] rfl)
  · refine lv_aload_n hx hb dL_law_494 rfl (lv_at hl 1 rfl) ?_
    refine lv_aload_n hx hb dL_law_495 rfl (lv_at hl 0 rfl) ?_
    refine lv_iload hx hb dL_law_496 (lv_at hl 4 rfl) ?_
    refine lv_iconst (v := 1) hx hb dL_law_498 (by decide) ?_
    refine lv_iadd hx hb dL_law_499 ?_
    refine ga_is (y := nI (i + 1)) (nI_add i 1) ?_
    refine ga_sld hx hb hX hbl hbA hS (i + 1) (by omega) hL dL_law_500 ?_
    refine ga_is (y := nI j) (hv1) ?_
    refine lv_aload_n hx hb dL_law_501 rfl (lv_at hl 0 rfl) ?_
    refine lv_iload hx hb dL_law_502 (lv_at hl 4 rfl) ?_
    refine lv_iconst (v := 2) hx hb dL_law_504 (by decide) ?_
    refine lv_iadd hx hb dL_law_505 ?_
    refine ga_is (y := nI (i + 2)) (nI_add i 2) ?_
    refine ga_sld hx hb hX hbl hbA hS (i + 2) (by omega) hL dL_law_506 ?_
    refine ga_is (y := nI d) (hv2) ?_
    refine lv_aload_n hx hb dL_law_507 rfl (lv_at hl 0 rfl) ?_
    refine lv_iload hx hb dL_law_508 (lv_at hl 4 rfl) ?_
    refine lv_iconst (v := 3) hx hb dL_law_510 (by decide) ?_
    refine lv_iadd hx hb dL_law_511 ?_
    refine ga_is (y := nI (i + 3)) (nI_add i 3) ?_
    refine ga_sld hx hb hX hbl hbA hS (i + 3) (by omega) hL dL_law_512 ?_
    refine lv_aload_n hx hb dL_law_513 rfl (lv_at hl 3 rfl) ?_
    have hF := freeL hD hS hA
    refine va_calli (vx_runSW (As := [.ref (a 0), .int (nI j), .int (nI d), .int (xs (i + 3)), .ref o]) (rest := []) ⟨hx, hb, hml, hown, hts⟩ (kL_reaches l dC dI cI cZ cA cJ a o fo H.size n am rf mk wv lo cf tf T mt im j d (xs (i + 3)) hd hG hT hj) (vx_cwSW 5 hts gL_law_L_reaches rfl rfl rfl (by decide +kernel) ⟨Nat.le_of_ble_eq_true rfl, Nat.le_of_ble_eq_true rfl⟩) ⟨blindW, preW (pL hP) hK (dL hD)⟩ rfl rfl hl.1 rfl (lv_room (Nat.le_of_ble_eq_true rfl)) dL_law_514 hc0) hS (fun q _ h => hF q h) hF (fun r_ u tS H1 locs htS hvm hw hB9 hz1 hk1 hS => ?_)
    obtain ⟨hP1, hK1, hD1⟩ := hB9
    rw [htS] at hP1
    obtain ⟨hP, hD⟩ := joinL hP hD hk1 hF hP1 hD1
    generalize H1 = H at hP hS ⊢
    obtain ⟨rfl, hsu⟩ := hw
    have hP : va_P (dC, dI) vwCl ((XW cI cZ cA a n am (u.1) mk wv lo cf tf (u.2) mt im ++ OW o cJ (vp_updL fo 0 (if rea (vv wv lo cf tf d j) (xs (i + 3)) = 0 then 0 else 1))) ++ MW cI cZ ad th n wv lo cf tf vs nr) H := hP
    have hD : va_D (fun q : Nat => s.heap.size ≤ q) ((XW cI cZ cA a n am (u.1) mk wv lo cf tf (u.2) mt im ++ OW o cJ (vp_updL fo 0 (if rea (vv wv lo cf tf d j) (xs (i + 3)) = 0 then 0 else 1))) ++ MW cI cZ ad th n wv lo cf tf vs nr) := hD
    refine W.eq (g2 := F0 m 517 ls [.int 0]) rfl ?_
    refine lv_istore (lv' := [(5, .int 0), (0, .ref b), (1, .ref (a 0)), (2, .ref (ad 0)), (3, .ref o), (4, .int (nI i))]) hx hb dL_law_517 hl (by decide) rfl (fun ls hl => ?_)
    refine lv_aload_n hx hb dL_law_519 rfl (lv_at hl 3 rfl) ?_
    refine lv_aload_n hx hb dL_law_520 rfl (lv_at hl 1 rfl) ?_
    refine lv_iload hx hb dL_law_521 (lv_at hl 5 rfl) ?_
    refine lv_iconst (v := 1) hx hb dL_law_523 (by decide) ?_
    refine lv_iadd hx hb dL_law_524 ?_
    refine ga_is (y := nI (i + 1)) (nI_add i 1) ?_
    refine ga_sld hx hb hX hbl hbA hS (i + 1) (by omega) hL dL_law_525 ?_
    refine ga_is (y := nI j) (hv1) ?_
    refine lv_aload_n hx hb dL_law_526 rfl (lv_at hl 1 rfl) ?_
    refine lv_iload hx hb dL_law_527 (lv_at hl 5 rfl) ?_
    refine lv_iconst (v := 2) hx hb dL_law_529 (by decide) ?_
    refine lv_iadd hx hb dL_law_530 ?_
    refine ga_is (y := nI (i + 2)) (nI_add i 2) ?_
    refine ga_sld hx hb hX hbl hbA hS (i + 2) (by omega) hL dL_law_531 ?_
    refine ga_is (y := nI d) (hv2) ?_
    refine lv_aload_n hx hb dL_law_532 rfl (lv_at hl 1 rfl) ?_
    refine lv_iload hx hb dL_law_533 (lv_at hl 5 rfl) ?_
    refine lv_iconst (v := 3) hx hb dL_law_535 (by decide) ?_
    refine lv_iadd hx hb dL_law_536 ?_
    refine ga_is (y := nI (i + 3)) (nI_add i 3) ?_
    refine ga_sld hx hb hX hbl hbA hS (i + 3) (by omega) hL dL_law_537 ?_
    have hF := freeR hD hS hA
    refine va_calli (va_runV (As := [.int (nI j), .int (nI d), .int (xs (i + 3))]) (rest := []) ⟨hx, hb, hml, hown, hts⟩ (kX1_reaches l dC dI cI cZ cA ad H.size th n wv lo cf tf vs nr j d (xs (i + 3)) hd hG hj) (cwV 3 hts gL_law_X1_reaches rfl rfl rfl (by decide +kernel) ⟨Nat.le_of_ble_eq_true rfl, Nat.le_of_ble_eq_true rfl⟩) ⟨blindW, va_recv hKg (pR hP) (ci := 1) (q0 := 0) rfl rfl, preW (pR hP) hKg (dR hD)⟩ rfl rfl hl.1 rfl (lv_room (Nat.le_of_ble_eq_true rfl)) dL_law_538 hc0) hS (fun q _ h => hF q h) hF (fun r_ u1 tS H1 locs htS hvm hw hB9 hz1 hk1 hS => ?_)
    obtain ⟨hP1, hK1, hD1⟩ := hB9
    rw [htS] at hP1
    obtain ⟨hP, hD⟩ := joinR hP hD hk1 hF hP1 hD1
    generalize H1 = H at hP hS ⊢
    obtain rfl : r_ = rea (vv wv lo cf tf d j) (xs (i + 3)) := hw
    have hP : va_P (dC, dI) vwCl ((XW cI cZ cA a n am (u.1) mk wv lo cf tf (u.2) mt im ++ OW o cJ (vp_updL fo 0 (if rea (vv wv lo cf tf d j) (xs (i + 3)) = 0 then 0 else 1))) ++ MW cI cZ ad 0 n wv lo cf tf u1 nr) H := hP
    have hD : va_D (fun q : Nat => s.heap.size ≤ q) ((XW cI cZ cA a n am (u.1) mk wv lo cf tf (u.2) mt im ++ OW o cJ (vp_updL fo 0 (if rea (vv wv lo cf tf d j) (xs (i + 3)) = 0 then 0 else 1))) ++ MW cI cZ ad 0 n wv lo cf tf u1 nr) := hD
    refine W.eq (g2 := F0 m 541 ls [.int (rea (vv wv lo cf tf d j) (xs (i + 3)))]) rfl ?_
    refine lv_istore (lv' := [(6, .int (rea (vv wv lo cf tf d j) (xs (i + 3)))), (5, .int 0), (0, .ref b), (1, .ref (a 0)), (2, .ref (ad 0)), (3, .ref o), (4, .int (nI i))]) hx hb dL_law_541 hl (by decide) rfl (fun ls hl => ?_)
    refine lv_aload_n hx hb dL_law_543 rfl (lv_at hl 4 rfl) ?_
    refine W.callR (r := nI 0) (W.runV (As := []) (rest := []) ⟨hx, hb, hml, hown, hts⟩ (kX1_thrown l dC dI cI cZ cA ad 0 n wv lo cf tf u1 nr ) (cwV 0 hts gL_law_X1_thrown rfl rfl rfl (by decide +kernel) ⟨Nat.le_of_ble_eq_true rfl, Nat.le_of_ble_eq_true rfl⟩) ⟨blindR, va_recv hKg (pR hP) (ci := 1) (q0 := 0) rfl rfl, preR (pR hP) hKg⟩ rfl rfl hl.1 rfl (lv_room (Nat.le_of_ble_eq_true rfl)) dL_law_544 hc0) ?_
    refine W.eq (g2 := F0 m 547 ls [.int (nI 0)]) rfl ?_
    refine lv_iload hx hb dL_law_547 (lv_at hl 1 rfl) ?_
    refine lv_icmp_eq (tgt := 554) hx hb dL_law_549 (by decide) (fun hq1 => ?_) (fun hq1 => absurd (show nI 0 = 0 from rfl) hq1)
    refine lv_iload hx hb dL_law_554 (lv_at hl 1 rfl) ?_
    refine lv_if_ne (tgt := 578) hx hb dL_law_556 (by decide) (fun hq2 => absurd (rfl : (0 : Int32) = 0) hq2) (fun hq2 => ?_)
    refine lv_aload_n hx hb dL_law_559 rfl (lv_at hl 5 rfl) ?_
    refine lv_iconst (v := 0) hx hb dL_law_560 (by decide) ?_
    refine va_lald hx hb hK (pL hP) 16 3 OW_at rfl in_0 dL_law_561 ?_
    rw [sb_cl0, pk_uLs]
    refine lv_iload hx hb dL_law_562 (lv_at hl 0 rfl) ?_
    refine lv_if_eq (tgt := 571) hx hb dL_law_564 (by decide) (fun h6z => ?_) (fun h6z => ?_)
    · refine lv_lconst (v := 0) hx hb dL_law_571 rfl ?_
      rw [if_pos h6z]
      refine W.lcmp hx hb dL_law_572 ?_
      rw [lcmp_self]
      refine lv_if_eq (tgt := 578) hx hb dL_law_573 (by decide) (fun hq3 => ?_) (fun hq3 => absurd (rfl : (0 : Int32) = 0) hq3)
      refine lv_goto (tgt := 927) hx hb dL_law_578 (by decide) ?_
      refine W.widen (k := cells + 1) (n := slots + 6) (by omega) (by omega) ?_
      exact nx n am (u.1) mk wv lo cf tf (u.2) mt im 0 u1 nr (vp_updL fo 0 (if rea (vv wv lo cf tf d j) (xs (i + 3)) = 0 then 0 else 1)) (⟨hG, hsu, hM, hsm⟩) H locs hP hD hS ls (lv_sub hl [2, 3, 4, 5, 6] rfl)
    · refine lv_lconst (v := 1) hx hb dL_law_567 rfl ?_
      refine lv_goto (tgt := 572) hx hb dL_law_568 (by decide) ?_
      rw [if_neg h6z]
      refine W.lcmp hx hb dL_law_572 ?_
      rw [lcmp_self]
      refine lv_if_eq (tgt := 578) hx hb dL_law_573 (by decide) (fun hq3 => ?_) (fun hq3 => absurd (rfl : (0 : Int32) = 0) hq3)
      refine lv_goto (tgt := 927) hx hb dL_law_578 (by decide) ?_
      refine W.widen (k := cells + 1) (n := slots + 6) (by omega) (by omega) ?_
      exact nx n am (u.1) mk wv lo cf tf (u.2) mt im 0 u1 nr (vp_updL fo 0 (if rea (vv wv lo cf tf d j) (xs (i + 3)) = 0 then 0 else 1)) (⟨hG, hsu, hM, hsm⟩) H locs hP hD hS ls (lv_sub hl [2, 3, 4, 5, 6] rfl)
set_option maxHeartbeats 4000000 in
set_option maxRecDepth 100000 in
theorem law_around {p : Program} {l : Launch} {e : Env} {s : State} {m : MethodId} {below : List Frame} {meth : Method} {c : Code} {b L : Nat} {xs : Nat → Int32} (hL : L ≤ 2049) (C0 : lw_At p s m meth c b L xs) (hl9 : l.stackTraces = false) {dC : Nat → ClassId} {dI : Nat → Nat → Nat} {cI cZ cA cJ : ClassId} {sa : Nat → Nat} (hK : va_K (dC, dI) vwCl (GJ cI cZ cA cJ) s) (hE : EX sa (fun q : Nat => s.heap.size ≤ q) s s.heap) {a ad : Nat → Nat} {o i : Nat} (hi : i + 4 ≤ L) {cells slots : Nat} (hcs : cells + 1 ≤ 601024 ∧ slots + 6 ≤ 7293000) (nx : LNx p l e s m below meth c b dC dI cI cZ cA cJ a ad o i (cells + 1) (slots + 6)) (n am rf mk : Nat) (wv lo : Nat → Int32) (cf tf : Nat → Nat) (T : Nat → Nat → Int32) (mt : Nat → Nat) (im : Nat → Int32) (th : Nat) (vs : Nat → Int32) (nr : Nat → Nat) (fo : Nat → Int64) (hI : LInv n am rf mk wv lo cf tf T mt im) (H : Heap) (locs : List Loc) (hP : va_P (dC, dI) vwCl ((XW cI cZ cA a n am rf mk wv lo cf tf T mt im ++ OW o cJ fo) ++ MW cI cZ ad th n wv lo cf tf vs nr) H) (hD : va_D (fun q : Nat => s.heap.size ≤ q) ((XW cI cZ cA a n am rf mk wv lo cf tf T mt im ++ OW o cJ fo) ++ MW cI cZ ad th n wv lo cf tf vs nr)) (hS : va_S (fun q : Nat => s.heap.size ≤ q) s.heap H locs) (ls : Array Slot) (hl : lv_has ls 7 [(0, .ref b), (1, .ref (a 0)), (2, .ref (ad 0)), (3, .ref o), (4, .int (nI i))]) : W p l e room_1 s m #[Value.ref b] below meth c H locs cells slots (lw_Z below #[Value.ref b] s) (F0 m 834 ls []) := by
  obtain ⟨hx, hb, hr, hml, hown, hts0, hX, hbl, hlocks, hgv⟩ := C0
  have hts : ∀ w ∈ wsL_law, w.before #[Value.ref b] s = true := fun w h => hts0 w (wsL_law_in w h)
  have hown : s.vm.findClass RL = some m.cls := hown
  have hA : ∀ q : Nat, s.heap.size ≤ q → (fun q : Nat => s.heap.size ≤ q) q := fun _ h => h
  have hbA : ¬ (fun q : Nat => s.heap.size ≤ q) b := Nat.not_le.mpr hbl
  have hKg := hK.sub (tys' := GT cI cZ cA) [0, 1, 2] rfl
  obtain ⟨hG, hT, hM, hsm⟩ := id hI
  obtain ⟨hn4, hwr, hc, htt, hlo, hz0⟩ := id hG
  have hc0 : cells + 0 ≤ room_1.cells ∧ slots + 0 ≤ room_1.slots := ⟨by show cells + 0 ≤ 601024; omega, by show slots + 0 ≤ 7293000; omega⟩
  have hc1 : cells + 1 ≤ room_1.cells ∧ slots + 6 ≤ room_1.slots := hcs
  have hc2 : cells + 1 + 0 ≤ room_1.cells ∧ slots + 6 + 0 ≤ room_1.slots := hcs
  rcases ask_or (n := n) (by omega) (xs (i + 1)) (xs (i + 2)) with hB | ⟨j, d, hj, hd, hv1, hv2⟩
  · refine lv_aload_n hx hb dL_law_834 rfl (lv_at hl 1 rfl) ?_
    refine lv_aload_n hx hb dL_law_835 rfl (lv_at hl 0 rfl) ?_
    refine lv_iload hx hb dL_law_836 (lv_at hl 4 rfl) ?_
    refine lv_iconst (v := 1) hx hb dL_law_838 (by decide) ?_
    refine lv_iadd hx hb dL_law_839 ?_
    refine ga_is (y := nI (i + 1)) (nI_add i 1) ?_
    refine ga_sld hx hb hX hbl hbA hS (i + 1) (by omega) hL dL_law_840 ?_
    refine lv_aload_n hx hb dL_law_841 rfl (lv_at hl 0 rfl) ?_
    refine lv_iload hx hb dL_law_842 (lv_at hl 4 rfl) ?_
    refine lv_iconst (v := 2) hx hb dL_law_844 (by decide) ?_
    refine lv_iadd hx hb dL_law_845 ?_
    refine ga_is (y := nI (i + 2)) (nI_add i 2) ?_
    refine ga_sld hx hb hX hbl hbA hS (i + 2) (by omega) hL dL_law_846 ?_
    refine lv_aload_n hx hb dL_law_847 rfl (lv_at hl 3 rfl) ?_
    refine va_calli (A0 := (fun q : Nat => s.heap.size ≤ q)) (H0 := s.heap) (vx_runSW (As := [.ref (a 0), .int (xs (i + 1)), .int (xs (i + 2)), .ref o]) (rest := []) ⟨hx, hb, hml, hown, hts⟩ (nL_around l hl9 dC dI cI cZ cA cJ a o fo H.size sa n am rf mk wv lo cf tf T mt im (xs (i + 1)) (xs (i + 2)) hB) (vx_cwSW 4 hts gL_law_L_around rfl rfl rfl (by decide +kernel) ⟨Nat.le_of_ble_eq_true rfl, Nat.le_of_ble_eq_true rfl⟩) ⟨blindTP, preTP (pL hP) hK ((hE.kept hS.2.1).narrow (fun _ h => h.elim))⟩ rfl rfl hl.1 rfl (lv_room (Nat.le_of_ble_eq_true rfl)) dL_law_848 hc1) hS (fun q _ h => Nat.le_trans hS.1 h) (fun q h => Nat.le_trans hS.1 h) (fun r_ u tS H1 locs htS hvm hw hB9 hz1 hk1 hS => ?_)
    have hP := keepN hP hk1
    generalize H1 = H at hP hS ⊢
    obtain rfl : r_ = 1 := hw
    refine W.eq (g2 := F0 m 851 ls [.int 1]) rfl ?_
    refine lv_istore (lv' := [(5, .int 1), (0, .ref b), (1, .ref (a 0)), (2, .ref (ad 0)), (3, .ref o), (4, .int (nI i))]) hx hb dL_law_851 hl (by decide) rfl (fun ls hl => ?_)
    refine lv_aload_n hx hb dL_law_853 rfl (lv_at hl 3 rfl) ?_
    refine lv_aload_n hx hb dL_law_854 rfl (lv_at hl 1 rfl) ?_
    refine lv_iload hx hb dL_law_855 (lv_at hl 5 rfl) ?_
    refine lv_iconst (v := 1) hx hb dL_law_857 (by decide) ?_
    refine lv_iadd hx hb dL_law_858 ?_
    refine ga_is (y := nI (i + 1)) (nI_add i 1) ?_
    refine ga_sld hx hb hX hbl hbA hS (i + 1) (by omega) hL dL_law_859 ?_
    refine lv_aload_n hx hb dL_law_860 rfl (lv_at hl 1 rfl) ?_
    refine lv_iload hx hb dL_law_861 (lv_at hl 5 rfl) ?_
    refine lv_iconst (v := 2) hx hb dL_law_863 (by decide) ?_
    refine lv_iadd hx hb dL_law_864 ?_
    refine ga_is (y := nI (i + 2)) (nI_add i 2) ?_
    refine ga_sld hx hb hX hbl hbA hS (i + 2) (by omega) hL dL_law_865 ?_
    have hF := freeR hD hS hA
    refine va_calli (va_runV (As := [.int (xs (i + 1)), .int (xs (i + 2))]) (rest := []) ⟨hx, hb, hml, hown, hts⟩ (kX1_around_no l dC dI cI cZ cA ad H.size th n wv lo cf tf vs nr (xs (i + 1)) (xs (i + 2)) hB) (cwV 2 hts gL_law_X1_around rfl rfl rfl (by decide +kernel) ⟨Nat.le_of_ble_eq_true rfl, Nat.le_of_ble_eq_true rfl⟩) ⟨blindW, va_recv hKg (pR hP) (ci := 1) (q0 := 0) rfl rfl, preW (pR hP) hKg (dR hD)⟩ rfl rfl hl.1 rfl (lv_room (Nat.le_of_ble_eq_true rfl)) dL_law_866 hc2) hS (fun q _ h => hF q h) hF (fun r_ u tS H1 locs htS hvm hw hB9 hz1 hk1 hS => ?_)
    obtain ⟨hP1, hK1, hD1⟩ := hB9
    rw [htS] at hP1
    obtain ⟨hP, hD⟩ := joinR hP hD hk1 hF hP1 hD1
    generalize H1 = H at hP hS ⊢
    obtain rfl : r_ = 0 := hw
    have hP : va_P (dC, dI) vwCl ((XW cI cZ cA a n am rf mk wv lo cf tf T mt im ++ OW o cJ fo) ++ MW cI cZ ad 1 n wv lo cf tf vs nr) H := hP
    have hD : va_D (fun q : Nat => s.heap.size ≤ q) ((XW cI cZ cA a n am rf mk wv lo cf tf T mt im ++ OW o cJ fo) ++ MW cI cZ ad 1 n wv lo cf tf vs nr) := hD
    refine W.eq (g2 := F0 m 869 ls [.int 0]) rfl ?_
    refine lv_istore (lv' := [(6, .int 0), (5, .int 1), (0, .ref b), (1, .ref (a 0)), (2, .ref (ad 0)), (3, .ref o), (4, .int (nI i))]) hx hb dL_law_869 hl (by decide) rfl (fun ls hl => ?_)
    refine lv_aload_n hx hb dL_law_871 rfl (lv_at hl 4 rfl) ?_
    refine W.callR (r := nI 1) (W.runV (As := []) (rest := []) ⟨hx, hb, hml, hown, hts⟩ (kX1_thrown l dC dI cI cZ cA ad 1 n wv lo cf tf vs nr ) (cwV 0 hts gL_law_X1_thrown rfl rfl rfl (by decide +kernel) ⟨Nat.le_of_ble_eq_true rfl, Nat.le_of_ble_eq_true rfl⟩) ⟨blindR, va_recv hKg (pR hP) (ci := 1) (q0 := 0) rfl rfl, preR (pR hP) hKg⟩ rfl rfl hl.1 rfl (lv_room (Nat.le_of_ble_eq_true rfl)) dL_law_872 hc2) ?_
    refine W.eq (g2 := F0 m 875 ls [.int (nI 1)]) rfl ?_
    refine lv_iload hx hb dL_law_875 (lv_at hl 1 rfl) ?_
    refine lv_icmp_eq (tgt := 882) hx hb dL_law_877 (by decide) (fun hq1 => ?_) (fun hq1 => absurd (show nI 1 = 1 from rfl) hq1)
    refine lv_iload hx hb dL_law_882 (lv_at hl 1 rfl) ?_
    refine lv_if_ne (tgt := 899) hx hb dL_law_884 (by decide) (fun hq2 => ?_) (fun hq2 => absurd hq2 (by decide))
    refine lv_goto (tgt := 927) hx hb dL_law_899 (by decide) ?_
    exact nx n am rf mk wv lo cf tf T mt im 1 vs nr fo (hI) H locs hP hD hS ls (lv_sub hl [2, 3, 4, 5, 6] rfl)
  · refine lv_aload_n hx hb dL_law_834 rfl (lv_at hl 1 rfl) ?_
    refine lv_aload_n hx hb dL_law_835 rfl (lv_at hl 0 rfl) ?_
    refine lv_iload hx hb dL_law_836 (lv_at hl 4 rfl) ?_
    refine lv_iconst (v := 1) hx hb dL_law_838 (by decide) ?_
    refine lv_iadd hx hb dL_law_839 ?_
    refine ga_is (y := nI (i + 1)) (nI_add i 1) ?_
    refine ga_sld hx hb hX hbl hbA hS (i + 1) (by omega) hL dL_law_840 ?_
    refine ga_is (y := nI j) (hv1) ?_
    refine lv_aload_n hx hb dL_law_841 rfl (lv_at hl 0 rfl) ?_
    refine lv_iload hx hb dL_law_842 (lv_at hl 4 rfl) ?_
    refine lv_iconst (v := 2) hx hb dL_law_844 (by decide) ?_
    refine lv_iadd hx hb dL_law_845 ?_
    refine ga_is (y := nI (i + 2)) (nI_add i 2) ?_
    refine ga_sld hx hb hX hbl hbA hS (i + 2) (by omega) hL dL_law_846 ?_
    refine ga_is (y := nI d) (hv2) ?_
    refine lv_aload_n hx hb dL_law_847 rfl (lv_at hl 3 rfl) ?_
    have hF := freeL hD hS hA
    refine va_calli (vx_runSW (As := [.ref (a 0), .int (nI j), .int (nI d), .ref o]) (rest := []) ⟨hx, hb, hml, hown, hts⟩ (kL_around l dC dI cI cZ cA cJ a o fo H.size n am rf mk wv lo cf tf T mt im j d hd hG hM hj) (vx_cwSW 4 hts gL_law_L_around rfl rfl rfl (by decide +kernel) ⟨Nat.le_of_ble_eq_true rfl, Nat.le_of_ble_eq_true rfl⟩) ⟨blindW, preW (pL hP) hK (dL hD)⟩ rfl rfl hl.1 rfl (lv_room (Nat.le_of_ble_eq_true rfl)) dL_law_848 hc0) hS (fun q _ h => hF q h) hF (fun r_ u tS H1 locs htS hvm hw hB9 hz1 hk1 hS => ?_)
    obtain ⟨hP1, hK1, hD1⟩ := hB9
    rw [htS] at hP1
    obtain ⟨hP, hD⟩ := joinL hP hD hk1 hF hP1 hD1
    generalize H1 = H at hP hS ⊢
    obtain ⟨rfl, hsu⟩ := hw
    have hP : va_P (dC, dI) vwCl ((XW cI cZ cA a n am rf (u.1) wv lo cf tf T (u.2.1) (u.2.2) ++ OW o cJ (vp_updL fo 0 (nI (cntP (rch cf tf j d) n)).toInt64)) ++ MW cI cZ ad th n wv lo cf tf vs nr) H := hP
    have hD : va_D (fun q : Nat => s.heap.size ≤ q) ((XW cI cZ cA a n am rf (u.1) wv lo cf tf T (u.2.1) (u.2.2) ++ OW o cJ (vp_updL fo 0 (nI (cntP (rch cf tf j d) n)).toInt64)) ++ MW cI cZ ad th n wv lo cf tf vs nr) := hD
    refine W.eq (g2 := F0 m 851 ls [.int 0]) rfl ?_
    refine lv_istore (lv' := [(5, .int 0), (0, .ref b), (1, .ref (a 0)), (2, .ref (ad 0)), (3, .ref o), (4, .int (nI i))]) hx hb dL_law_851 hl (by decide) rfl (fun ls hl => ?_)
    refine lv_aload_n hx hb dL_law_853 rfl (lv_at hl 3 rfl) ?_
    refine lv_aload_n hx hb dL_law_854 rfl (lv_at hl 1 rfl) ?_
    refine lv_iload hx hb dL_law_855 (lv_at hl 5 rfl) ?_
    refine lv_iconst (v := 1) hx hb dL_law_857 (by decide) ?_
    refine lv_iadd hx hb dL_law_858 ?_
    refine ga_is (y := nI (i + 1)) (nI_add i 1) ?_
    refine ga_sld hx hb hX hbl hbA hS (i + 1) (by omega) hL dL_law_859 ?_
    refine ga_is (y := nI j) (hv1) ?_
    refine lv_aload_n hx hb dL_law_860 rfl (lv_at hl 1 rfl) ?_
    refine lv_iload hx hb dL_law_861 (lv_at hl 5 rfl) ?_
    refine lv_iconst (v := 2) hx hb dL_law_863 (by decide) ?_
    refine lv_iadd hx hb dL_law_864 ?_
    refine ga_is (y := nI (i + 2)) (nI_add i 2) ?_
    refine ga_sld hx hb hX hbl hbA hS (i + 2) (by omega) hL dL_law_865 ?_
    refine ga_is (y := nI d) (hv2) ?_
    have hF := freeR hD hS hA
    refine va_calli (va_runV (As := [.int (nI j), .int (nI d)]) (rest := []) ⟨hx, hb, hml, hown, hts⟩ (kX1_around l dC dI cI cZ cA ad H.size th n wv lo cf tf vs nr j d hd hG hj) (cwV 2 hts gL_law_X1_around rfl rfl rfl (by decide +kernel) ⟨Nat.le_of_ble_eq_true rfl, Nat.le_of_ble_eq_true rfl⟩) ⟨blindW, va_recv hKg (pR hP) (ci := 1) (q0 := 0) rfl rfl, preW (pR hP) hKg (dR hD)⟩ rfl rfl hl.1 rfl (lv_room (Nat.le_of_ble_eq_true rfl)) dL_law_866 hc0) hS (fun q _ h => hF q h) hF (fun r_ u1 tS H1 locs htS hvm hw hB9 hz1 hk1 hS => ?_)
    obtain ⟨hP1, hK1, hD1⟩ := hB9
    rw [htS] at hP1
    obtain ⟨hP, hD⟩ := joinR hP hD hk1 hF hP1 hD1
    generalize H1 = H at hP hS ⊢
    obtain rfl : r_ = nI (cntP (rch cf tf j d) n) := hw
    have hP : va_P (dC, dI) vwCl ((XW cI cZ cA a n am rf (u.1) wv lo cf tf T (u.2.1) (u.2.2) ++ OW o cJ (vp_updL fo 0 (nI (cntP (rch cf tf j d) n)).toInt64)) ++ MW cI cZ ad 0 n wv lo cf tf vs u1) H := hP
    have hD : va_D (fun q : Nat => s.heap.size ≤ q) ((XW cI cZ cA a n am rf (u.1) wv lo cf tf T (u.2.1) (u.2.2) ++ OW o cJ (vp_updL fo 0 (nI (cntP (rch cf tf j d) n)).toInt64)) ++ MW cI cZ ad 0 n wv lo cf tf vs u1) := hD
    refine W.eq (g2 := F0 m 869 ls [.int (nI (cntP (rch cf tf j d) n))]) rfl ?_
    refine lv_istore (lv' := [(6, .int (nI (cntP (rch cf tf j d) n))), (5, .int 0), (0, .ref b), (1, .ref (a 0)), (2, .ref (ad 0)), (3, .ref o), (4, .int (nI i))]) hx hb dL_law_869 hl (by decide) rfl (fun ls hl => ?_)
    refine lv_aload_n hx hb dL_law_871 rfl (lv_at hl 4 rfl) ?_
    refine W.callR (r := nI 0) (W.runV (As := []) (rest := []) ⟨hx, hb, hml, hown, hts⟩ (kX1_thrown l dC dI cI cZ cA ad 0 n wv lo cf tf vs u1 ) (cwV 0 hts gL_law_X1_thrown rfl rfl rfl (by decide +kernel) ⟨Nat.le_of_ble_eq_true rfl, Nat.le_of_ble_eq_true rfl⟩) ⟨blindR, va_recv hKg (pR hP) (ci := 1) (q0 := 0) rfl rfl, preR (pR hP) hKg⟩ rfl rfl hl.1 rfl (lv_room (Nat.le_of_ble_eq_true rfl)) dL_law_872 hc0) ?_
    refine W.eq (g2 := F0 m 875 ls [.int (nI 0)]) rfl ?_
    refine lv_iload hx hb dL_law_875 (lv_at hl 1 rfl) ?_
    refine lv_icmp_eq (tgt := 882) hx hb dL_law_877 (by decide) (fun hq1 => ?_) (fun hq1 => absurd (show nI 0 = 0 from rfl) hq1)
    refine lv_iload hx hb dL_law_882 (lv_at hl 1 rfl) ?_
    refine lv_if_ne (tgt := 899) hx hb dL_law_884 (by decide) (fun hq2 => absurd (rfl : (0 : Int32) = 0) hq2) (fun hq2 => ?_)
    refine lv_aload_n hx hb dL_law_887 rfl (lv_at hl 5 rfl) ?_
    refine lv_iconst (v := 0) hx hb dL_law_888 (by decide) ?_
    refine va_lald hx hb hK (pL hP) 16 3 OW_at rfl in_0 dL_law_889 ?_
    rw [sb_cl0, pk_uLs]
    refine lv_iload hx hb dL_law_890 (lv_at hl 0 rfl) ?_
    refine lv_i2l hx hb dL_law_892 rfl ?_
    refine W.lcmp hx hb dL_law_893 ?_
    rw [lcmp_self]
    refine lv_if_eq (tgt := 899) hx hb dL_law_894 (by decide) (fun hq3 => ?_) (fun hq3 => absurd (rfl : (0 : Int32) = 0) hq3)
    refine lv_goto (tgt := 927) hx hb dL_law_899 (by decide) ?_
    refine W.widen (k := cells + 1) (n := slots + 6) (by omega) (by omega) ?_
    exact nx n am rf (u.1) wv lo cf tf T (u.2.1) (u.2.2) 0 vs u1 (vp_updL fo 0 (nI (cntP (rch cf tf j d) n)).toInt64) (⟨hG, hT, hsu, hsm⟩) H locs hP hD hS ls (lv_sub hl [2, 3, 4, 5, 6] rfl)
set_option maxHeartbeats 4000000 in
set_option maxRecDepth 100000 in
theorem law_line {p : Program} {l : Launch} {e : Env} {s : State} {m : MethodId} {below : List Frame} {meth : Method} {c : Code} {b L : Nat} {xs : Nat → Int32} (hL : L ≤ 2049) (C0 : lw_At p s m meth c b L xs) (hl9 : l.stackTraces = false) {dC : Nat → ClassId} {dI : Nat → Nat → Nat} {cI cZ cA cJ : ClassId} {sa : Nat → Nat} (hK : va_K (dC, dI) vwCl (GJ cI cZ cA cJ) s) (hE : EX sa (fun q : Nat => s.heap.size ≤ q) s s.heap) {a ad : Nat → Nat} {o i : Nat} (hi : i + 4 ≤ L) {cells slots : Nat} (hcs : cells + 1 ≤ 601024 ∧ slots + 6 ≤ 7293000) (nx : LNx p l e s m below meth c b dC dI cI cZ cA cJ a ad o i (cells + 1) (slots + 6)) (n am rf mk : Nat) (wv lo : Nat → Int32) (cf tf : Nat → Nat) (T : Nat → Nat → Int32) (mt : Nat → Nat) (im : Nat → Int32) (th : Nat) (vs : Nat → Int32) (nr : Nat → Nat) (fo : Nat → Int64) (hI : LInv n am rf mk wv lo cf tf T mt im) (H : Heap) (locs : List Loc) (hP : va_P (dC, dI) vwCl ((XW cI cZ cA a n am rf mk wv lo cf tf T mt im ++ OW o cJ fo) ++ MW cI cZ ad th n wv lo cf tf vs nr) H) (hD : va_D (fun q : Nat => s.heap.size ≤ q) ((XW cI cZ cA a n am rf mk wv lo cf tf T mt im ++ OW o cJ fo) ++ MW cI cZ ad th n wv lo cf tf vs nr)) (hS : va_S (fun q : Nat => s.heap.size ≤ q) s.heap H locs) (ls : Array Slot) (hl : lv_has ls 7 [(0, .ref b), (1, .ref (a 0)), (2, .ref (ad 0)), (3, .ref o), (4, .int (nI i))]) : W p l e room_1 s m #[Value.ref b] below meth c H locs cells slots (lw_Z below #[Value.ref b] s) (F0 m 581 ls []) := by
  obtain ⟨hx, hb, hr, hml, hown, hts0, hX, hbl, hlocks, hgv⟩ := C0
  have hts : ∀ w ∈ wsL_law, w.before #[Value.ref b] s = true := fun w h => hts0 w (wsL_law_in w h)
  have hown : s.vm.findClass RL = some m.cls := hown
  have hA : ∀ q : Nat, s.heap.size ≤ q → (fun q : Nat => s.heap.size ≤ q) q := fun _ h => h
  have hbA : ¬ (fun q : Nat => s.heap.size ≤ q) b := Nat.not_le.mpr hbl
  have hKg := hK.sub (tys' := GT cI cZ cA) [0, 1, 2] rfl
  obtain ⟨hG, hT, hM, hsm⟩ := id hI
  obtain ⟨hn4, hwr, hc, htt, hlo, hz0⟩ := id hG
  have hc0 : cells + 0 ≤ room_1.cells ∧ slots + 0 ≤ room_1.slots := ⟨by show cells + 0 ≤ 601024; omega, by show slots + 0 ≤ 7293000; omega⟩
  have hc1 : cells + 1 ≤ room_1.cells ∧ slots + 6 ≤ room_1.slots := hcs
  have hc2 : cells + 1 + 0 ≤ room_1.cells ∧ slots + 6 + 0 ≤ room_1.slots := hcs
  rcases ask_or (n := n) (by omega) (xs (i + 1)) (xs (i + 2)) with hB | ⟨j, d, hj, hd, hv1, hv2⟩
  · refine lv_aload_n hx hb dL_law_581 rfl (lv_at hl 1 rfl) ?_
    refine lv_aload_n hx hb dL_law_582 rfl (lv_at hl 0 rfl) ?_
    refine lv_iload hx hb dL_law_583 (lv_at hl 4 rfl) ?_
    refine lv_iconst (v := 1) hx hb dL_law_585 (by decide) ?_
    refine lv_iadd hx hb dL_law_586 ?_
    refine ga_is (y := nI (i + 1)) (nI_add i 1) ?_
    refine ga_sld hx hb hX hbl hbA hS (i + 1) (by omega) hL dL_law_587 ?_
    refine lv_aload_n hx hb dL_law_588 rfl (lv_at hl 0 rfl) ?_
    refine lv_iload hx hb dL_law_589 (lv_at hl 4 rfl) ?_
    refine lv_iconst (v := 2) hx hb dL_law_591 (by decide) ?_
    refine lv_iadd hx hb dL_law_592 ?_
    refine ga_is (y := nI (i + 2)) (nI_add i 2) ?_
    refine ga_sld hx hb hX hbl hbA hS (i + 2) (by omega) hL dL_law_593 ?_
    refine lv_aload_n hx hb dL_law_594 rfl (lv_at hl 0 rfl) ?_
    refine lv_iload hx hb dL_law_595 (lv_at hl 4 rfl) ?_
    refine lv_iconst (v := 3) hx hb dL_law_597 (by decide) ?_
    refine lv_iadd hx hb dL_law_598 ?_
    refine ga_is (y := nI (i + 3)) (nI_add i 3) ?_
    refine ga_sld hx hb hX hbl hbA hS (i + 3) (by omega) hL dL_law_599 ?_
    refine lv_aload_n hx hb dL_law_600 rfl (lv_at hl 3 rfl) ?_
    refine va_calli (A0 := (fun q : Nat => s.heap.size ≤ q)) (H0 := s.heap) (vx_runSW (As := [.ref (a 0), .int (xs (i + 1)), .int (xs (i + 2)), .int (xs (i + 3)), .ref o]) (rest := []) ⟨hx, hb, hml, hown, hts⟩ (nL_line l hl9 dC dI cI cZ cA cJ a o fo H.size sa n am rf mk wv lo cf tf T mt im (xs (i + 1)) (xs (i + 2)) (xs (i + 3)) hB) (vx_cwSW 5 hts gL_law_L_line rfl rfl rfl (by decide +kernel) ⟨Nat.le_of_ble_eq_true rfl, Nat.le_of_ble_eq_true rfl⟩) ⟨blindTP, preTP (pL hP) hK ((hE.kept hS.2.1).narrow (fun _ h => h.elim))⟩ rfl rfl hl.1 rfl (lv_room (Nat.le_of_ble_eq_true rfl)) dL_law_601 hc1) hS (fun q _ h => Nat.le_trans hS.1 h) (fun q h => Nat.le_trans hS.1 h) (fun r_ u tS H1 locs htS hvm hw hB9 hz1 hk1 hS => ?_)
    have hP := keepN hP hk1
    generalize H1 = H at hP hS ⊢
    obtain rfl : r_ = 1 := hw
    refine W.eq (g2 := F0 m 604 ls [.int 1]) rfl ?_
    refine lv_istore (lv' := [(5, .int 1), (0, .ref b), (1, .ref (a 0)), (2, .ref (ad 0)), (3, .ref o), (4, .int (nI i))]) hx hb dL_law_604 hl (by decide) rfl (fun ls hl => ?_)
    refine lv_aload_n hx hb dL_law_606 rfl (lv_at hl 3 rfl) ?_
    refine lv_aload_n hx hb dL_law_607 rfl (lv_at hl 1 rfl) ?_
    refine lv_iload hx hb dL_law_608 (lv_at hl 5 rfl) ?_
    refine lv_iconst (v := 1) hx hb dL_law_610 (by decide) ?_
    refine lv_iadd hx hb dL_law_611 ?_
    refine ga_is (y := nI (i + 1)) (nI_add i 1) ?_
    refine ga_sld hx hb hX hbl hbA hS (i + 1) (by omega) hL dL_law_612 ?_
    refine lv_aload_n hx hb dL_law_613 rfl (lv_at hl 1 rfl) ?_
    refine lv_iload hx hb dL_law_614 (lv_at hl 5 rfl) ?_
    refine lv_iconst (v := 2) hx hb dL_law_616 (by decide) ?_
    refine lv_iadd hx hb dL_law_617 ?_
    refine ga_is (y := nI (i + 2)) (nI_add i 2) ?_
    refine ga_sld hx hb hX hbl hbA hS (i + 2) (by omega) hL dL_law_618 ?_
    refine lv_aload_n hx hb dL_law_619 rfl (lv_at hl 1 rfl) ?_
    refine lv_iload hx hb dL_law_620 (lv_at hl 5 rfl) ?_
    refine lv_iconst (v := 3) hx hb dL_law_622 (by decide) ?_
    refine lv_iadd hx hb dL_law_623 ?_
    refine ga_is (y := nI (i + 3)) (nI_add i 3) ?_
    refine ga_sld hx hb hX hbl hbA hS (i + 3) (by omega) hL dL_law_624 ?_
    have hF := freeR hD hS hA
    refine va_calli (va_runV (As := [.int (xs (i + 1)), .int (xs (i + 2)), .int (xs (i + 3))]) (rest := []) ⟨hx, hb, hml, hown, hts⟩ (kX1_line_no l dC dI cI cZ cA ad H.size th n wv lo cf tf vs nr (xs (i + 1)) (xs (i + 2)) (xs (i + 3)) hB) (cwV 3 hts gL_law_X1_line rfl rfl rfl (by decide +kernel) ⟨Nat.le_of_ble_eq_true rfl, Nat.le_of_ble_eq_true rfl⟩) ⟨blindW, va_recv hKg (pR hP) (ci := 1) (q0 := 0) rfl rfl, preW (pR hP) hKg (dR hD)⟩ rfl rfl hl.1 rfl (lv_room (Nat.le_of_ble_eq_true rfl)) dL_law_625 hc2) hS (fun q _ h => hF q h) hF (fun r_ u tS H1 locs htS hvm hw hB9 hz1 hk1 hS => ?_)
    obtain ⟨hP1, hK1, hD1⟩ := hB9
    rw [htS] at hP1
    obtain ⟨hP, hD⟩ := joinR hP hD hk1 hF hP1 hD1
    generalize H1 = H at hP hS ⊢
    obtain rfl : r_ = 0 := hw
    have hP : va_P (dC, dI) vwCl ((XW cI cZ cA a n am rf mk wv lo cf tf T mt im ++ OW o cJ fo) ++ MW cI cZ ad 1 n wv lo cf tf vs nr) H := hP
    have hD : va_D (fun q : Nat => s.heap.size ≤ q) ((XW cI cZ cA a n am rf mk wv lo cf tf T mt im ++ OW o cJ fo) ++ MW cI cZ ad 1 n wv lo cf tf vs nr) := hD
    refine W.eq (g2 := F0 m 628 ls [.int 0]) rfl ?_
    refine lv_istore (lv' := [(6, .int 0), (5, .int 1), (0, .ref b), (1, .ref (a 0)), (2, .ref (ad 0)), (3, .ref o), (4, .int (nI i))]) hx hb dL_law_628 hl (by decide) rfl (fun ls hl => ?_)
    refine lv_aload_n hx hb dL_law_630 rfl (lv_at hl 4 rfl) ?_
    refine W.callR (r := nI 1) (W.runV (As := []) (rest := []) ⟨hx, hb, hml, hown, hts⟩ (kX1_thrown l dC dI cI cZ cA ad 1 n wv lo cf tf vs nr ) (cwV 0 hts gL_law_X1_thrown rfl rfl rfl (by decide +kernel) ⟨Nat.le_of_ble_eq_true rfl, Nat.le_of_ble_eq_true rfl⟩) ⟨blindR, va_recv hKg (pR hP) (ci := 1) (q0 := 0) rfl rfl, preR (pR hP) hKg⟩ rfl rfl hl.1 rfl (lv_room (Nat.le_of_ble_eq_true rfl)) dL_law_631 hc2) ?_
    refine W.eq (g2 := F0 m 634 ls [.int (nI 1)]) rfl ?_
    refine lv_iload hx hb dL_law_634 (lv_at hl 1 rfl) ?_
    refine lv_icmp_eq (tgt := 641) hx hb dL_law_636 (by decide) (fun hq1 => ?_) (fun hq1 => absurd (show nI 1 = 1 from rfl) hq1)
    refine lv_iload hx hb dL_law_641 (lv_at hl 1 rfl) ?_
    refine lv_if_ne (tgt := 658) hx hb dL_law_643 (by decide) (fun hq2 => ?_) (fun hq2 => absurd hq2 (by decide))
    refine lv_goto (tgt := 927) hx hb dL_law_658 (by decide) ?_
    exact nx n am rf mk wv lo cf tf T mt im 1 vs nr fo (hI) H locs hP hD hS ls (lv_sub hl [2, 3, 4, 5, 6] rfl)
  · by_cases hneg : (xs (i + 3)) < 0
    · refine lv_aload_n hx hb dL_law_581 rfl (lv_at hl 1 rfl) ?_
      refine lv_aload_n hx hb dL_law_582 rfl (lv_at hl 0 rfl) ?_
      refine lv_iload hx hb dL_law_583 (lv_at hl 4 rfl) ?_
      refine lv_iconst (v := 1) hx hb dL_law_585 (by decide) ?_
      refine lv_iadd hx hb dL_law_586 ?_
      refine ga_is (y := nI (i + 1)) (nI_add i 1) ?_
      refine ga_sld hx hb hX hbl hbA hS (i + 1) (by omega) hL dL_law_587 ?_
      refine ga_is (y := nI j) (hv1) ?_
      refine lv_aload_n hx hb dL_law_588 rfl (lv_at hl 0 rfl) ?_
      refine lv_iload hx hb dL_law_589 (lv_at hl 4 rfl) ?_
      refine lv_iconst (v := 2) hx hb dL_law_591 (by decide) ?_
      refine lv_iadd hx hb dL_law_592 ?_
      refine ga_is (y := nI (i + 2)) (nI_add i 2) ?_
      refine ga_sld hx hb hX hbl hbA hS (i + 2) (by omega) hL dL_law_593 ?_
      refine ga_is (y := nI d) (hv2) ?_
      refine lv_aload_n hx hb dL_law_594 rfl (lv_at hl 0 rfl) ?_
      refine lv_iload hx hb dL_law_595 (lv_at hl 4 rfl) ?_
      refine lv_iconst (v := 3) hx hb dL_law_597 (by decide) ?_
      refine lv_iadd hx hb dL_law_598 ?_
      refine ga_is (y := nI (i + 3)) (nI_add i 3) ?_
      refine ga_sld hx hb hX hbl hbA hS (i + 3) (by omega) hL dL_law_599 ?_
      refine lv_aload_n hx hb dL_law_600 rfl (lv_at hl 3 rfl) ?_
      have hF := freeL hD hS hA
      refine va_calli (vx_runSW (As := [.ref (a 0), .int (nI j), .int (nI d), .int (xs (i + 3)), .ref o]) (rest := []) ⟨hx, hb, hml, hown, hts⟩ (kL_line_no l dC dI cI cZ cA cJ a o fo H.size n am rf mk wv lo cf tf T mt im j d (xs (i + 3)) hn4 hj hd (Or.inl hneg)) (vx_cwSW 5 hts gL_law_L_line rfl rfl rfl (by decide +kernel) ⟨Nat.le_of_ble_eq_true rfl, Nat.le_of_ble_eq_true rfl⟩) ⟨blindW, preW (pL hP) hK (dL hD)⟩ rfl rfl hl.1 rfl (lv_room (Nat.le_of_ble_eq_true rfl)) dL_law_601 hc0) hS (fun q _ h => hF q h) hF (fun r_ u tS H1 locs htS hvm hw hB9 hz1 hk1 hS => ?_)
      obtain ⟨hP1, hK1, hD1⟩ := hB9
      rw [htS] at hP1
      obtain ⟨hP, hD⟩ := joinL hP hD hk1 hF hP1 hD1
      generalize H1 = H at hP hS ⊢
      obtain rfl : r_ = 0 := hw
      have hP : va_P (dC, dI) vwCl ((XW cI cZ cA a n am rf mk wv lo cf tf T mt im ++ OW o cJ (vp_updL fo 0 (-1))) ++ MW cI cZ ad th n wv lo cf tf vs nr) H := hP
      have hD : va_D (fun q : Nat => s.heap.size ≤ q) ((XW cI cZ cA a n am rf mk wv lo cf tf T mt im ++ OW o cJ (vp_updL fo 0 (-1))) ++ MW cI cZ ad th n wv lo cf tf vs nr) := hD
      refine W.eq (g2 := F0 m 604 ls [.int 0]) rfl ?_
      refine lv_istore (lv' := [(5, .int 0), (0, .ref b), (1, .ref (a 0)), (2, .ref (ad 0)), (3, .ref o), (4, .int (nI i))]) hx hb dL_law_604 hl (by decide) rfl (fun ls hl => ?_)
      refine lv_aload_n hx hb dL_law_606 rfl (lv_at hl 3 rfl) ?_
      refine lv_aload_n hx hb dL_law_607 rfl (lv_at hl 1 rfl) ?_
      refine lv_iload hx hb dL_law_608 (lv_at hl 5 rfl) ?_
      refine lv_iconst (v := 1) hx hb dL_law_610 (by decide) ?_
      refine lv_iadd hx hb dL_law_611 ?_
      refine ga_is (y := nI (i + 1)) (nI_add i 1) ?_
      refine ga_sld hx hb hX hbl hbA hS (i + 1) (by omega) hL dL_law_612 ?_
      refine ga_is (y := nI j) (hv1) ?_
      refine lv_aload_n hx hb dL_law_613 rfl (lv_at hl 1 rfl) ?_
      refine lv_iload hx hb dL_law_614 (lv_at hl 5 rfl) ?_
      refine lv_iconst (v := 2) hx hb dL_law_616 (by decide) ?_
      refine lv_iadd hx hb dL_law_617 ?_
      refine ga_is (y := nI (i + 2)) (nI_add i 2) ?_
      refine ga_sld hx hb hX hbl hbA hS (i + 2) (by omega) hL dL_law_618 ?_
      refine ga_is (y := nI d) (hv2) ?_
      refine lv_aload_n hx hb dL_law_619 rfl (lv_at hl 1 rfl) ?_
      refine lv_iload hx hb dL_law_620 (lv_at hl 5 rfl) ?_
      refine lv_iconst (v := 3) hx hb dL_law_622 (by decide) ?_
      refine lv_iadd hx hb dL_law_623 ?_
      refine ga_is (y := nI (i + 3)) (nI_add i 3) ?_
      refine ga_sld hx hb hX hbl hbA hS (i + 3) (by omega) hL dL_law_624 ?_
      have hF := freeR hD hS hA
      refine va_calli (va_runV (As := [.int (nI j), .int (nI d), .int (xs (i + 3))]) (rest := []) ⟨hx, hb, hml, hown, hts⟩ (kX1_line_neg l dC dI cI cZ cA ad H.size th n wv lo cf tf vs nr j d (xs (i + 3)) hd hG hj hneg) (cwV 3 hts gL_law_X1_line rfl rfl rfl (by decide +kernel) ⟨Nat.le_of_ble_eq_true rfl, Nat.le_of_ble_eq_true rfl⟩) ⟨blindW, va_recv hKg (pR hP) (ci := 1) (q0 := 0) rfl rfl, preW (pR hP) hKg (dR hD)⟩ rfl rfl hl.1 rfl (lv_room (Nat.le_of_ble_eq_true rfl)) dL_law_625 hc0) hS (fun q _ h => hF q h) hF (fun r_ u1 tS H1 locs htS hvm hw hB9 hz1 hk1 hS => ?_)
      obtain ⟨hP1, hK1, hD1⟩ := hB9
      rw [htS] at hP1
      obtain ⟨hP, hD⟩ := joinR hP hD hk1 hF hP1 hD1
      generalize H1 = H at hP hS ⊢
      obtain rfl : r_ = (-1) := hw
      have hP : va_P (dC, dI) vwCl ((XW cI cZ cA a n am rf mk wv lo cf tf T mt im ++ OW o cJ (vp_updL fo 0 (-1))) ++ MW cI cZ ad 0 n wv lo cf tf u1 nr) H := hP
      have hD : va_D (fun q : Nat => s.heap.size ≤ q) ((XW cI cZ cA a n am rf mk wv lo cf tf T mt im ++ OW o cJ (vp_updL fo 0 (-1))) ++ MW cI cZ ad 0 n wv lo cf tf u1 nr) := hD
      refine W.eq (g2 := F0 m 628 ls [.int (-1)]) rfl ?_
      refine lv_istore (lv' := [(6, .int (-1)), (5, .int 0), (0, .ref b), (1, .ref (a 0)), (2, .ref (ad 0)), (3, .ref o), (4, .int (nI i))]) hx hb dL_law_628 hl (by decide) rfl (fun ls hl => ?_)
      refine lv_aload_n hx hb dL_law_630 rfl (lv_at hl 4 rfl) ?_
      refine W.callR (r := nI 0) (W.runV (As := []) (rest := []) ⟨hx, hb, hml, hown, hts⟩ (kX1_thrown l dC dI cI cZ cA ad 0 n wv lo cf tf u1 nr ) (cwV 0 hts gL_law_X1_thrown rfl rfl rfl (by decide +kernel) ⟨Nat.le_of_ble_eq_true rfl, Nat.le_of_ble_eq_true rfl⟩) ⟨blindR, va_recv hKg (pR hP) (ci := 1) (q0 := 0) rfl rfl, preR (pR hP) hKg⟩ rfl rfl hl.1 rfl (lv_room (Nat.le_of_ble_eq_true rfl)) dL_law_631 hc0) ?_
      refine W.eq (g2 := F0 m 634 ls [.int (nI 0)]) rfl ?_
      refine lv_iload hx hb dL_law_634 (lv_at hl 1 rfl) ?_
      refine lv_icmp_eq (tgt := 641) hx hb dL_law_636 (by decide) (fun hq1 => ?_) (fun hq1 => absurd (show nI 0 = 0 from rfl) hq1)
      refine lv_iload hx hb dL_law_641 (lv_at hl 1 rfl) ?_
      refine lv_if_ne (tgt := 658) hx hb dL_law_643 (by decide) (fun hq2 => absurd (rfl : (0 : Int32) = 0) hq2) (fun hq2 => ?_)
      refine lv_aload_n hx hb dL_law_646 rfl (lv_at hl 5 rfl) ?_
      refine lv_iconst (v := 0) hx hb dL_law_647 (by decide) ?_
      refine va_lald hx hb hK (pL hP) 16 3 OW_at rfl in_0 dL_law_648 ?_
      rw [sb_cl0, pk_uLs]
      refine lv_iload hx hb dL_law_649 (lv_at hl 0 rfl) ?_
      refine lv_i2l (v := (-1)) hx hb dL_law_651 (by decide +kernel) ?_
      refine W.lcmp hx hb dL_law_652 ?_
      rw [lcmp_self]
      refine lv_if_eq (tgt := 658) hx hb dL_law_653 (by decide) (fun hq3 => ?_) (fun hq3 => absurd (rfl : (0 : Int32) = 0) hq3)
      refine lv_goto (tgt := 927) hx hb dL_law_658 (by decide) ?_
      refine W.widen (k := cells + 1) (n := slots + 6) (by omega) (by omega) ?_
      exact nx n am rf mk wv lo cf tf T mt im 0 u1 nr (vp_updL fo 0 (-1)) (hI) H locs hP hD hS ls (lv_sub hl [2, 3, 4, 5, 6] rfl)
    · obtain ⟨k, hk, hv3⟩ := nI_of hneg
      by_cases hkd : k ≤ d
      · refine lv_aload_n hx hb dL_law_581 rfl (lv_at hl 1 rfl) ?_
        refine lv_aload_n hx hb dL_law_582 rfl (lv_at hl 0 rfl) ?_
        refine lv_iload hx hb dL_law_583 (lv_at hl 4 rfl) ?_
        refine lv_iconst (v := 1) hx hb dL_law_585 (by decide) ?_
        refine lv_iadd hx hb dL_law_586 ?_
        refine ga_is (y := nI (i + 1)) (nI_add i 1) ?_
        refine ga_sld hx hb hX hbl hbA hS (i + 1) (by omega) hL dL_law_587 ?_
        refine ga_is (y := nI j) (hv1) ?_
        refine lv_aload_n hx hb dL_law_588 rfl (lv_at hl 0 rfl) ?_
        refine lv_iload hx hb dL_law_589 (lv_at hl 4 rfl) ?_
        refine lv_iconst (v := 2) hx hb dL_law_591 (by decide) ?_
        refine lv_iadd hx hb dL_law_592 ?_
        refine ga_is (y := nI (i + 2)) (nI_add i 2) ?_
        refine ga_sld hx hb hX hbl hbA hS (i + 2) (by omega) hL dL_law_593 ?_
        refine ga_is (y := nI d) (hv2) ?_
        refine lv_aload_n hx hb dL_law_594 rfl (lv_at hl 0 rfl) ?_
        refine lv_iload hx hb dL_law_595 (lv_at hl 4 rfl) ?_
        refine lv_iconst (v := 3) hx hb dL_law_597 (by decide) ?_
        refine lv_iadd hx hb dL_law_598 ?_
        refine ga_is (y := nI (i + 3)) (nI_add i 3) ?_
        refine ga_sld hx hb hX hbl hbA hS (i + 3) (by omega) hL dL_law_599 ?_
        refine ga_is (y := nI k) (hv3) ?_
        refine lv_aload_n hx hb dL_law_600 rfl (lv_at hl 3 rfl) ?_
        have hF := freeL hD hS hA
        refine va_calli (vx_runSW (As := [.ref (a 0), .int (nI j), .int (nI d), .int (nI k), .ref o]) (rest := []) ⟨hx, hb, hml, hown, hts⟩ (kL_line l dC dI cI cZ cA cJ a o fo H.size n am rf mk wv lo cf tf T mt im j d k hd hG hT hj hkd) (vx_cwSW 5 hts gL_law_L_line rfl rfl rfl (by decide +kernel) ⟨Nat.le_of_ble_eq_true rfl, Nat.le_of_ble_eq_true rfl⟩) ⟨blindW, preW (pL hP) hK (dL hD)⟩ rfl rfl hl.1 rfl (lv_room (Nat.le_of_ble_eq_true rfl)) dL_law_601 hc0) hS (fun q _ h => hF q h) hF (fun r_ u tS H1 locs htS hvm hw hB9 hz1 hk1 hS => ?_)
        obtain ⟨hP1, hK1, hD1⟩ := hB9
        rw [htS] at hP1
        obtain ⟨hP, hD⟩ := joinL hP hD hk1 hF hP1 hD1
        generalize H1 = H at hP hS ⊢
        obtain ⟨rfl, hsu⟩ := hw
        have hP : va_P (dC, dI) vwCl ((XW cI cZ cA a n am (u.1) mk wv lo cf tf (u.2) mt im ++ OW o cJ (vp_updL fo 0 (lin cf tf (vv wv lo cf tf) k j d).toInt64)) ++ MW cI cZ ad th n wv lo cf tf vs nr) H := hP
        have hD : va_D (fun q : Nat => s.heap.size ≤ q) ((XW cI cZ cA a n am (u.1) mk wv lo cf tf (u.2) mt im ++ OW o cJ (vp_updL fo 0 (lin cf tf (vv wv lo cf tf) k j d).toInt64)) ++ MW cI cZ ad th n wv lo cf tf vs nr) := hD
        refine W.eq (g2 := F0 m 604 ls [.int 0]) rfl ?_
        refine lv_istore (lv' := [(5, .int 0), (0, .ref b), (1, .ref (a 0)), (2, .ref (ad 0)), (3, .ref o), (4, .int (nI i))]) hx hb dL_law_604 hl (by decide) rfl (fun ls hl => ?_)
        refine lv_aload_n hx hb dL_law_606 rfl (lv_at hl 3 rfl) ?_
        refine lv_aload_n hx hb dL_law_607 rfl (lv_at hl 1 rfl) ?_
        refine lv_iload hx hb dL_law_608 (lv_at hl 5 rfl) ?_
        refine lv_iconst (v := 1) hx hb dL_law_610 (by decide) ?_
        refine lv_iadd hx hb dL_law_611 ?_
        refine ga_is (y := nI (i + 1)) (nI_add i 1) ?_
        refine ga_sld hx hb hX hbl hbA hS (i + 1) (by omega) hL dL_law_612 ?_
        refine ga_is (y := nI j) (hv1) ?_
        refine lv_aload_n hx hb dL_law_613 rfl (lv_at hl 1 rfl) ?_
        refine lv_iload hx hb dL_law_614 (lv_at hl 5 rfl) ?_
        refine lv_iconst (v := 2) hx hb dL_law_616 (by decide) ?_
        refine lv_iadd hx hb dL_law_617 ?_
        refine ga_is (y := nI (i + 2)) (nI_add i 2) ?_
        refine ga_sld hx hb hX hbl hbA hS (i + 2) (by omega) hL dL_law_618 ?_
        refine ga_is (y := nI d) (hv2) ?_
        refine lv_aload_n hx hb dL_law_619 rfl (lv_at hl 1 rfl) ?_
        refine lv_iload hx hb dL_law_620 (lv_at hl 5 rfl) ?_
        refine lv_iconst (v := 3) hx hb dL_law_622 (by decide) ?_
        refine lv_iadd hx hb dL_law_623 ?_
        refine ga_is (y := nI (i + 3)) (nI_add i 3) ?_
        refine ga_sld hx hb hX hbl hbA hS (i + 3) (by omega) hL dL_law_624 ?_
        refine ga_is (y := nI k) (hv3) ?_
        have hF := freeR hD hS hA
        refine va_calli (va_runV (As := [.int (nI j), .int (nI d), .int (nI k)]) (rest := []) ⟨hx, hb, hml, hown, hts⟩ (kX1_line l dC dI cI cZ cA ad H.size th n wv lo cf tf vs nr j d k hd hG hj hk) (cwV 3 hts gL_law_X1_line rfl rfl rfl (by decide +kernel) ⟨Nat.le_of_ble_eq_true rfl, Nat.le_of_ble_eq_true rfl⟩) ⟨blindW, va_recv hKg (pR hP) (ci := 1) (q0 := 0) rfl rfl, preW (pR hP) hKg (dR hD)⟩ rfl rfl hl.1 rfl (lv_room (Nat.le_of_ble_eq_true rfl)) dL_law_625 hc0) hS (fun q _ h => hF q h) hF (fun r_ u1 tS H1 locs htS hvm hw hB9 hz1 hk1 hS => ?_)
        obtain ⟨hP1, hK1, hD1⟩ := hB9
        rw [htS] at hP1
        obtain ⟨hP, hD⟩ := joinR hP hD hk1 hF hP1 hD1
        generalize H1 = H at hP hS ⊢
        obtain rfl : r_ = lin cf tf (vv wv lo cf tf) k j d := hw
        have hP : va_P (dC, dI) vwCl ((XW cI cZ cA a n am (u.1) mk wv lo cf tf (u.2) mt im ++ OW o cJ (vp_updL fo 0 (lin cf tf (vv wv lo cf tf) k j d).toInt64)) ++ MW cI cZ ad 0 n wv lo cf tf u1 nr) H := hP
        have hD : va_D (fun q : Nat => s.heap.size ≤ q) ((XW cI cZ cA a n am (u.1) mk wv lo cf tf (u.2) mt im ++ OW o cJ (vp_updL fo 0 (lin cf tf (vv wv lo cf tf) k j d).toInt64)) ++ MW cI cZ ad 0 n wv lo cf tf u1 nr) := hD
        refine W.eq (g2 := F0 m 628 ls [.int (lin cf tf (vv wv lo cf tf) k j d)]) rfl ?_
        refine lv_istore (lv' := [(6, .int (lin cf tf (vv wv lo cf tf) k j d)), (5, .int 0), (0, .ref b), (1, .ref (a 0)), (2, .ref (ad 0)), (3, .ref o), (4, .int (nI i))]) hx hb dL_law_628 hl (by decide) rfl (fun ls hl => ?_)
        refine lv_aload_n hx hb dL_law_630 rfl (lv_at hl 4 rfl) ?_
        refine W.callR (r := nI 0) (W.runV (As := []) (rest := []) ⟨hx, hb, hml, hown, hts⟩ (kX1_thrown l dC dI cI cZ cA ad 0 n wv lo cf tf u1 nr ) (cwV 0 hts gL_law_X1_thrown rfl rfl rfl (by decide +kernel) ⟨Nat.le_of_ble_eq_true rfl, Nat.le_of_ble_eq_true rfl⟩) ⟨blindR, va_recv hKg (pR hP) (ci := 1) (q0 := 0) rfl rfl, preR (pR hP) hKg⟩ rfl rfl hl.1 rfl (lv_room (Nat.le_of_ble_eq_true rfl)) dL_law_631 hc0) ?_
        refine W.eq (g2 := F0 m 634 ls [.int (nI 0)]) rfl ?_
        refine lv_iload hx hb dL_law_634 (lv_at hl 1 rfl) ?_
        refine lv_icmp_eq (tgt := 641) hx hb dL_law_636 (by decide) (fun hq1 => ?_) (fun hq1 => absurd (show nI 0 = 0 from rfl) hq1)
        refine lv_iload hx hb dL_law_641 (lv_at hl 1 rfl) ?_
        refine lv_if_ne (tgt := 658) hx hb dL_law_643 (by decide) (fun hq2 => absurd (rfl : (0 : Int32) = 0) hq2) (fun hq2 => ?_)
        refine lv_aload_n hx hb dL_law_646 rfl (lv_at hl 5 rfl) ?_
        refine lv_iconst (v := 0) hx hb dL_law_647 (by decide) ?_
        refine va_lald hx hb hK (pL hP) 16 3 OW_at rfl in_0 dL_law_648 ?_
        rw [sb_cl0, pk_uLs]
        refine lv_iload hx hb dL_law_649 (lv_at hl 0 rfl) ?_
        refine lv_i2l hx hb dL_law_651 rfl ?_
        refine W.lcmp hx hb dL_law_652 ?_
        rw [lcmp_self]
        refine lv_if_eq (tgt := 658) hx hb dL_law_653 (by decide) (fun hq3 => ?_) (fun hq3 => absurd (rfl : (0 : Int32) = 0) hq3)
        refine lv_goto (tgt := 927) hx hb dL_law_658 (by decide) ?_
        refine W.widen (k := cells + 1) (n := slots + 6) (by omega) (by omega) ?_
        exact nx n am (u.1) mk wv lo cf tf (u.2) mt im 0 u1 nr (vp_updL fo 0 (lin cf tf (vv wv lo cf tf) k j d).toInt64) (⟨hG, hsu, hM, hsm⟩) H locs hP hD hS ls (lv_sub hl [2, 3, 4, 5, 6] rfl)
      · refine lv_aload_n hx hb dL_law_581 rfl (lv_at hl 1 rfl) ?_
        refine lv_aload_n hx hb dL_law_582 rfl (lv_at hl 0 rfl) ?_
        refine lv_iload hx hb dL_law_583 (lv_at hl 4 rfl) ?_
        refine lv_iconst (v := 1) hx hb dL_law_585 (by decide) ?_
        refine lv_iadd hx hb dL_law_586 ?_
        refine ga_is (y := nI (i + 1)) (nI_add i 1) ?_
        refine ga_sld hx hb hX hbl hbA hS (i + 1) (by omega) hL dL_law_587 ?_
        refine ga_is (y := nI j) (hv1) ?_
        refine lv_aload_n hx hb dL_law_588 rfl (lv_at hl 0 rfl) ?_
        refine lv_iload hx hb dL_law_589 (lv_at hl 4 rfl) ?_
        refine lv_iconst (v := 2) hx hb dL_law_591 (by decide) ?_
        refine lv_iadd hx hb dL_law_592 ?_
        refine ga_is (y := nI (i + 2)) (nI_add i 2) ?_
        refine ga_sld hx hb hX hbl hbA hS (i + 2) (by omega) hL dL_law_593 ?_
        refine ga_is (y := nI d) (hv2) ?_
        refine lv_aload_n hx hb dL_law_594 rfl (lv_at hl 0 rfl) ?_
        refine lv_iload hx hb dL_law_595 (lv_at hl 4 rfl) ?_
        refine lv_iconst (v := 3) hx hb dL_law_597 (by decide) ?_
        refine lv_iadd hx hb dL_law_598 ?_
        refine ga_is (y := nI (i + 3)) (nI_add i 3) ?_
        refine ga_sld hx hb hX hbl hbA hS (i + 3) (by omega) hL dL_law_599 ?_
        refine ga_is (y := nI k) (hv3) ?_
        refine lv_aload_n hx hb dL_law_600 rfl (lv_at hl 3 rfl) ?_
        have hF := freeL hD hS hA
        refine va_calli (vx_runSW (As := [.ref (a 0), .int (nI j), .int (nI d), .int (nI k), .ref o]) (rest := []) ⟨hx, hb, hml, hown, hts⟩ (kL_line_no l dC dI cI cZ cA cJ a o fo H.size n am rf mk wv lo cf tf T mt im j d (nI k) hn4 hj hd (Or.inr (nI_lt (by omega) hk))) (vx_cwSW 5 hts gL_law_L_line rfl rfl rfl (by decide +kernel) ⟨Nat.le_of_ble_eq_true rfl, Nat.le_of_ble_eq_true rfl⟩) ⟨blindW, preW (pL hP) hK (dL hD)⟩ rfl rfl hl.1 rfl (lv_room (Nat.le_of_ble_eq_true rfl)) dL_law_601 hc0) hS (fun q _ h => hF q h) hF (fun r_ u tS H1 locs htS hvm hw hB9 hz1 hk1 hS => ?_)
        obtain ⟨hP1, hK1, hD1⟩ := hB9
        rw [htS] at hP1
        obtain ⟨hP, hD⟩ := joinL hP hD hk1 hF hP1 hD1
        generalize H1 = H at hP hS ⊢
        obtain rfl : r_ = 0 := hw
        have hP : va_P (dC, dI) vwCl ((XW cI cZ cA a n am rf mk wv lo cf tf T mt im ++ OW o cJ (vp_updL fo 0 (-1))) ++ MW cI cZ ad th n wv lo cf tf vs nr) H := hP
        have hD : va_D (fun q : Nat => s.heap.size ≤ q) ((XW cI cZ cA a n am rf mk wv lo cf tf T mt im ++ OW o cJ (vp_updL fo 0 (-1))) ++ MW cI cZ ad th n wv lo cf tf vs nr) := hD
        refine W.eq (g2 := F0 m 604 ls [.int 0]) rfl ?_
        refine lv_istore (lv' := [(5, .int 0), (0, .ref b), (1, .ref (a 0)), (2, .ref (ad 0)), (3, .ref o), (4, .int (nI i))]) hx hb dL_law_604 hl (by decide) rfl (fun ls hl => ?_)
        refine lv_aload_n hx hb dL_law_606 rfl (lv_at hl 3 rfl) ?_
        refine lv_aload_n hx hb dL_law_607 rfl (lv_at hl 1 rfl) ?_
        refine lv_iload hx hb dL_law_608 (lv_at hl 5 rfl) ?_
        refine lv_iconst (v := 1) hx hb dL_law_610 (by decide) ?_
        refine lv_iadd hx hb dL_law_611 ?_
        refine ga_is (y := nI (i + 1)) (nI_add i 1) ?_
        refine ga_sld hx hb hX hbl hbA hS (i + 1) (by omega) hL dL_law_612 ?_
        refine ga_is (y := nI j) (hv1) ?_
        refine lv_aload_n hx hb dL_law_613 rfl (lv_at hl 1 rfl) ?_
        refine lv_iload hx hb dL_law_614 (lv_at hl 5 rfl) ?_
        refine lv_iconst (v := 2) hx hb dL_law_616 (by decide) ?_
        refine lv_iadd hx hb dL_law_617 ?_
        refine ga_is (y := nI (i + 2)) (nI_add i 2) ?_
        refine ga_sld hx hb hX hbl hbA hS (i + 2) (by omega) hL dL_law_618 ?_
        refine ga_is (y := nI d) (hv2) ?_
        refine lv_aload_n hx hb dL_law_619 rfl (lv_at hl 1 rfl) ?_
        refine lv_iload hx hb dL_law_620 (lv_at hl 5 rfl) ?_
        refine lv_iconst (v := 3) hx hb dL_law_622 (by decide) ?_
        refine lv_iadd hx hb dL_law_623 ?_
        refine ga_is (y := nI (i + 3)) (nI_add i 3) ?_
        refine ga_sld hx hb hX hbl hbA hS (i + 3) (by omega) hL dL_law_624 ?_
        refine ga_is (y := nI k) (hv3) ?_
        have hF := freeR hD hS hA
        refine va_calli (va_runV (As := [.int (nI j), .int (nI d), .int (nI k)]) (rest := []) ⟨hx, hb, hml, hown, hts⟩ (kX1_line l dC dI cI cZ cA ad H.size th n wv lo cf tf vs nr j d k hd hG hj hk) (cwV 3 hts gL_law_X1_line rfl rfl rfl (by decide +kernel) ⟨Nat.le_of_ble_eq_true rfl, Nat.le_of_ble_eq_true rfl⟩) ⟨blindW, va_recv hKg (pR hP) (ci := 1) (q0 := 0) rfl rfl, preW (pR hP) hKg (dR hD)⟩ rfl rfl hl.1 rfl (lv_room (Nat.le_of_ble_eq_true rfl)) dL_law_625 hc0) hS (fun q _ h => hF q h) hF (fun r_ u1 tS H1 locs htS hvm hw hB9 hz1 hk1 hS => ?_)
        obtain ⟨hP1, hK1, hD1⟩ := hB9
        rw [htS] at hP1
        obtain ⟨hP, hD⟩ := joinR hP hD hk1 hF hP1 hD1
        generalize H1 = H at hP hS ⊢
        obtain rfl : r_ = (-1) := by rw [show r_ = lin cf tf (vv wv lo cf tf) k j d from hw]; exact lin_gt d k j (by omega)
        have hP : va_P (dC, dI) vwCl ((XW cI cZ cA a n am rf mk wv lo cf tf T mt im ++ OW o cJ (vp_updL fo 0 (-1))) ++ MW cI cZ ad 0 n wv lo cf tf u1 nr) H := hP
        have hD : va_D (fun q : Nat => s.heap.size ≤ q) ((XW cI cZ cA a n am rf mk wv lo cf tf T mt im ++ OW o cJ (vp_updL fo 0 (-1))) ++ MW cI cZ ad 0 n wv lo cf tf u1 nr) := hD
        refine W.eq (g2 := F0 m 628 ls [.int (-1)]) rfl ?_
        refine lv_istore (lv' := [(6, .int (-1)), (5, .int 0), (0, .ref b), (1, .ref (a 0)), (2, .ref (ad 0)), (3, .ref o), (4, .int (nI i))]) hx hb dL_law_628 hl (by decide) rfl (fun ls hl => ?_)
        refine lv_aload_n hx hb dL_law_630 rfl (lv_at hl 4 rfl) ?_
        refine W.callR (r := nI 0) (W.runV (As := []) (rest := []) ⟨hx, hb, hml, hown, hts⟩ (kX1_thrown l dC dI cI cZ cA ad 0 n wv lo cf tf u1 nr ) (cwV 0 hts gL_law_X1_thrown rfl rfl rfl (by decide +kernel) ⟨Nat.le_of_ble_eq_true rfl, Nat.le_of_ble_eq_true rfl⟩) ⟨blindR, va_recv hKg (pR hP) (ci := 1) (q0 := 0) rfl rfl, preR (pR hP) hKg⟩ rfl rfl hl.1 rfl (lv_room (Nat.le_of_ble_eq_true rfl)) dL_law_631 hc0) ?_
        refine W.eq (g2 := F0 m 634 ls [.int (nI 0)]) rfl ?_
        refine lv_iload hx hb dL_law_634 (lv_at hl 1 rfl) ?_
        refine lv_icmp_eq (tgt := 641) hx hb dL_law_636 (by decide) (fun hq1 => ?_) (fun hq1 => absurd (show nI 0 = 0 from rfl) hq1)
        refine lv_iload hx hb dL_law_641 (lv_at hl 1 rfl) ?_
        refine lv_if_ne (tgt := 658) hx hb dL_law_643 (by decide) (fun hq2 => absurd (rfl : (0 : Int32) = 0) hq2) (fun hq2 => ?_)
        refine lv_aload_n hx hb dL_law_646 rfl (lv_at hl 5 rfl) ?_
        refine lv_iconst (v := 0) hx hb dL_law_647 (by decide) ?_
        refine va_lald hx hb hK (pL hP) 16 3 OW_at rfl in_0 dL_law_648 ?_
        rw [sb_cl0, pk_uLs]
        refine lv_iload hx hb dL_law_649 (lv_at hl 0 rfl) ?_
        refine lv_i2l (v := (-1)) hx hb dL_law_651 (by decide +kernel) ?_
        refine W.lcmp hx hb dL_law_652 ?_
        rw [lcmp_self]
        refine lv_if_eq (tgt := 658) hx hb dL_law_653 (by decide) (fun hq3 => ?_) (fun hq3 => absurd (rfl : (0 : Int32) = 0) hq3)
        refine lv_goto (tgt := 927) hx hb dL_law_658 (by decide) ?_
        refine W.widen (k := cells + 1) (n := slots + 6) (by omega) (by omega) ?_
        exact nx n am rf mk wv lo cf tf T mt im 0 u1 nr (vp_updL fo 0 (-1)) (hI) H locs hP hD hS ls (lv_sub hl [2, 3, 4, 5, 6] rfl)
