set_option maxHeartbeats 4000000 in
set_option maxRecDepth 100000 in
theorem law_drop {p : Program} {l : Launch} {e : Env} {s : State} {m : MethodId} {below : List Frame} {meth : Method} {c : Code} {b L : Nat} {xs : Nat → Int32} (hL : L ≤ 2049) (C0 : lw_At p s m meth c b L xs) (hl9 : l.stackTraces = false) {dC : Nat → ClassId} {dI : Nat → Nat → Nat} {cI cZ cA cJ : ClassId} {sa : Nat → Nat} (hK : va_K (dC, dI) vwCl (GJ cI cZ cA cJ) s) (hE : EX sa (fun q : Nat => s.heap.size ≤ q) s s.heap) {a ad : Nat → Nat} {o i : Nat} (hi : i + 4 ≤ L) {cells slots : Nat} (hcs : cells + 1 ≤ 601024 ∧ slots + 6 ≤ 7293000) (nx : LNx p l e s m below meth c b dC dI cI cZ cA cJ a ad o i (cells + 1) (slots + 6)) (n am rf mk : Nat) (wv lo : Nat → Int32) (cf tf : Nat → Nat) (T : Nat → Nat → Int32) (mt : Nat → Nat) (im : Nat → Int32) (th : Nat) (vs : Nat → Int32) (nr : Nat → Nat) (fo : Nat → Int64) (hI : LInv n am rf mk wv lo cf tf T mt im) (H : Heap) (locs : List Loc) (hP : va_P (dC, dI) vwCl ((XW cI cZ cA a n am rf mk wv lo cf tf T mt im ++ OW o cJ fo) ++ MW cI cZ ad th n wv lo cf tf vs nr) H) (hD : va_D (fun q : Nat => s.heap.size ≤ q) ((XW cI cZ cA a n am rf mk wv lo cf tf T mt im ++ OW o cJ fo) ++ MW cI cZ ad th n wv lo cf tf vs nr)) (hS : va_S (fun q : Nat => s.heap.size ≤ q) s.heap H locs) (ls : Array Slot) (hl : lv_has ls 7 [(0, .ref b), (1, .ref (a 0)), (2, .ref (ad 0)), (3, .ref o), (4, .int (nI i))]) : W p l e room_1 s m #[Value.ref b] below meth c H locs cells slots (lw_Z below #[Value.ref b] s) (F0 m 268 ls []) := by
  obtain ⟨hx, hb, hr, hml, hown, hts0, hX, hbl, hlocks, hgv⟩ := C0
  have hts : ∀ w ∈ wsL_law, w.before #[Value.ref b] s = true := fun w h => hts0 w (wsL_law_in w h)
  have hown : s.vm.findClass RL = some m.cls := hown
  have hA : ∀ q : Nat, s.heap.size ≤ q → (fun q : Nat => s.heap.size ≤ q) q := fun _ h => h
  have hbA : ¬ (fun q : Nat => s.heap.size ≤ q) b := Nat.not_le.mpr hbl
  have hKg := hK.sub (tys' := GT cI cZ cA) [0, 1, 2] rfl
  obtain ⟨hG, hT, hM, hsm⟩ := id hI
  obtain ⟨hn4, hwr, hc, htt, hlo, hz0⟩ := id hG
  have hc0 : cells + 0 ≤ room_1.cells ∧ slots + 0 ≤ room_1.slots := ⟨by show cells + 0 ≤ 601024; omega, by show slots + 0 ≤ 7293000; omega⟩
  have hc1 : cells + 1 ≤ room_1.cells ∧ slots + 6 ≤ room_1.slots := hcs
  have hc2 : cells + 1 + 0 ≤ room_1.cells ∧ slots + 6 + 0 ≤ room_1.slots := hcs
  rcases isn_in (x := (xs (i + 1))) (n := n) (by omega) with ⟨-, j, hj, hv1⟩ | ⟨hno, -⟩
  · have hcj := hc j hj
    rcases Nat.eq_zero_or_pos (cf j) with hc9 | hc9
    · refine lv_aload_n hx hb dL_law_268 rfl (lv_at hl 1 rfl) ?_
      refine lv_aload_n hx hb dL_law_269 rfl (lv_at hl 0 rfl) ?_
      refine lv_iload hx hb dL_law_270 (lv_at hl 4 rfl) ?_
      refine lv_iconst (v := 1) hx hb dL_law_272 (by decide) ?_
      refine lv_iadd hx hb dL_law_273 ?_
      refine ga_is (y := nI (i + 1)) (nI_add i 1) ?_
      refine ga_sld hx hb hX hbl hbA hS (i + 1) (by omega) hL dL_law_274 ?_
      refine ga_is (y := nI j) (hv1) ?_
      refine W.callR (r := 0) (W.runV (As := [.int (nI j)]) (rest := []) ⟨hx, hb, hml, hown, hts⟩ (kX0_drop_z l dC dI cI cZ cA a n am rf mk wv lo cf tf T mt im j hn4 hj hc9) (cwV 1 hts gL_law_X0_drop rfl rfl rfl (by decide +kernel) ⟨Nat.le_of_ble_eq_true rfl, Nat.le_of_ble_eq_true rfl⟩) ⟨blindR, va_recv hKg (pL (pL hP)) (ci := 0) (q0 := 0) rfl rfl, preR (pL (pL hP)) hKg⟩ rfl rfl hl.1 rfl (lv_room (Nat.le_of_ble_eq_true rfl)) dL_law_275 hc0) ?_
      refine W.eq (g2 := F0 m 278 ls [.int 0]) rfl ?_
      refine lv_aload_n hx hb dL_law_278 rfl (lv_at hl 2 rfl) ?_
      refine lv_aload_n hx hb dL_law_279 rfl (lv_at hl 0 rfl) ?_
      refine lv_iload hx hb dL_law_280 (lv_at hl 4 rfl) ?_
      refine lv_iconst (v := 1) hx hb dL_law_282 (by decide) ?_
      refine lv_iadd hx hb dL_law_283 ?_
      refine ga_is (y := nI (i + 1)) (nI_add i 1) ?_
      refine ga_sld hx hb hX hbl hbA hS (i + 1) (by omega) hL dL_law_284 ?_
      refine ga_is (y := nI j) (hv1) ?_
      have hF := freeR hD hS hA
      refine va_calli (va_runV (As := [.int (nI j)]) (rest := [.int 0]) ⟨hx, hb, hml, hown, hts⟩ (kX1_drop_z l dC dI cI cZ cA ad H.size th n wv lo cf tf vs nr j hn4 hj hc9) (cwV 1 hts gL_law_X1_drop rfl rfl rfl (by decide +kernel) ⟨Nat.le_of_ble_eq_true rfl, Nat.le_of_ble_eq_true rfl⟩) ⟨blindW, va_recv hKg (pR hP) (ci := 1) (q0 := 0) rfl rfl, preW (pR hP) hKg (dR hD)⟩ rfl rfl hl.1 rfl (lv_room (Nat.le_of_ble_eq_true rfl)) dL_law_285 hc0) hS (fun q _ h => hF q h) hF (fun r_ u tS H1 locs htS hvm hw hB9 hz1 hk1 hS => ?_)
      obtain ⟨hP1, hK1, hD1⟩ := hB9
      rw [htS] at hP1
      obtain ⟨hP, hD⟩ := joinR hP hD hk1 hF hP1 hD1
      generalize H1 = H at hP hS ⊢
      obtain rfl : r_ = 0 := hw
      have hP : va_P (dC, dI) vwCl ((XW cI cZ cA a n am rf mk wv lo cf tf T mt im ++ OW o cJ fo) ++ MW cI cZ ad 0 n wv lo cf tf vs nr) H := hP
      have hD : va_D (fun q : Nat => s.heap.size ≤ q) ((XW cI cZ cA a n am rf mk wv lo cf tf T mt im ++ OW o cJ fo) ++ MW cI cZ ad 0 n wv lo cf tf vs nr) := hD
      refine W.eq (g2 := F0 m 288 ls [.int 0, .int 0]) rfl ?_
      refine lv_icmp_eq (tgt := 927) hx hb dL_law_288 (by decide) (fun hq1 => ?_) (fun hq1 => absurd rfl hq1)
      refine W.widen (k := cells + 1) (n := slots + 6) (by omega) (by omega) ?_
      exact nx n am rf mk wv lo cf tf T mt im 0 vs nr fo (hI) H locs hP hD hS ls (lv_sub hl [0, 1, 2, 3, 4] rfl)
    · obtain ⟨c0, hc0j⟩ : ∃ c0, cf j = c0 + 1 := ⟨cf j - 1, by omega⟩
      refine lv_aload_n hx hb dL_law_268 rfl (lv_at hl 1 rfl) ?_
      refine lv_aload_n hx hb dL_law_269 rfl (lv_at hl 0 rfl) ?_
      refine lv_iload hx hb dL_law_270 (lv_at hl 4 rfl) ?_
      refine lv_iconst (v := 1) hx hb dL_law_272 (by decide) ?_
      refine lv_iadd hx hb dL_law_273 ?_
      refine ga_is (y := nI (i + 1)) (nI_add i 1) ?_
      refine ga_sld hx hb hX hbl hbA hS (i + 1) (by omega) hL dL_law_274 ?_
      refine ga_is (y := nI j) (hv1) ?_
      have hP := assocP hP
      have hD := assocD hD
      have hF := freeL hD hS hA
      refine va_calli (va_runV (As := [.int (nI j)]) (rest := []) ⟨hx, hb, hml, hown, hts⟩ (kX0_drop l dC dI cI cZ cA a H.size n am rf mk wv lo cf tf T mt im j c0 hn4 hj hc0j (by omega) (hI.am_pos hj hc0j)) (cwV 1 hts gL_law_X0_drop rfl rfl rfl (by decide +kernel) ⟨Nat.le_of_ble_eq_true rfl, Nat.le_of_ble_eq_true rfl⟩) ⟨blindW, va_recv hKg (pL hP) (ci := 0) (q0 := 0) rfl rfl, preW (pL hP) hKg (dL hD)⟩ rfl rfl hl.1 rfl (lv_room (Nat.le_of_ble_eq_true rfl)) dL_law_275 hc0) hS (fun q _ h => hF q h) hF (fun r_ u tS H1 locs htS hvm hw hB9 hz1 hk1 hS => ?_)
      obtain ⟨hP1, hK1, hD1⟩ := hB9
      rw [htS] at hP1
      obtain ⟨hP, hD⟩ := joinL hP hD hk1 hF hP1 hD1
      have hP := cossaP hP
      have hD := cossaD hD
      generalize H1 = H at hP hS ⊢
      obtain rfl : r_ = 1 := hw
      have hP : va_P (dC, dI) vwCl ((XW cI cZ cA a n (am - 1) 0 mk wv lo (va_up cf j c0) tf T mt im ++ OW o cJ fo) ++ MW cI cZ ad th n wv lo cf tf vs nr) H := hP
      have hD : va_D (fun q : Nat => s.heap.size ≤ q) ((XW cI cZ cA a n (am - 1) 0 mk wv lo (va_up cf j c0) tf T mt im ++ OW o cJ fo) ++ MW cI cZ ad th n wv lo cf tf vs nr) := hD
      refine W.eq (g2 := F0 m 278 ls [.int 1]) rfl ?_
      refine lv_aload_n hx hb dL_law_278 rfl (lv_at hl 2 rfl) ?_
      refine lv_aload_n hx hb dL_law_279 rfl (lv_at hl 0 rfl) ?_
      refine lv_iload hx hb dL_law_280 (lv_at hl 4 rfl) ?_
      refine lv_iconst (v := 1) hx hb dL_law_282 (by decide) ?_
      refine lv_iadd hx hb dL_law_283 ?_
      refine ga_is (y := nI (i + 1)) (nI_add i 1) ?_
      refine ga_sld hx hb hX hbl hbA hS (i + 1) (by omega) hL dL_law_284 ?_
      refine ga_is (y := nI j) (hv1) ?_
      have hF := freeR hD hS hA
      refine va_calli (va_runV (As := [.int (nI j)]) (rest := [.int 1]) ⟨hx, hb, hml, hown, hts⟩ (kX1_drop l dC dI cI cZ cA ad H.size th n wv lo cf tf vs nr j c0 hn4 hj hc0j (by omega)) (cwV 1 hts gL_law_X1_drop rfl rfl rfl (by decide +kernel) ⟨Nat.le_of_ble_eq_true rfl, Nat.le_of_ble_eq_true rfl⟩) ⟨blindW, va_recv hKg (pR hP) (ci := 1) (q0 := 0) rfl rfl, preW (pR hP) hKg (dR hD)⟩ rfl rfl hl.1 rfl (lv_room (Nat.le_of_ble_eq_true rfl)) dL_law_285 hc0) hS (fun q _ h => hF q h) hF (fun r_ u tS H1 locs htS hvm hw hB9 hz1 hk1 hS => ?_)
      obtain ⟨hP1, hK1, hD1⟩ := hB9
      rw [htS] at hP1
      obtain ⟨hP, hD⟩ := joinR hP hD hk1 hF hP1 hD1
      generalize H1 = H at hP hS ⊢
      obtain rfl : r_ = 1 := hw
      have hP : va_P (dC, dI) vwCl ((XW cI cZ cA a n (am - 1) 0 mk wv lo (va_up cf j c0) tf T mt im ++ OW o cJ fo) ++ MW cI cZ ad 0 n wv lo (va_up cf j c0) tf vs nr) H := hP
      have hD : va_D (fun q : Nat => s.heap.size ≤ q) ((XW cI cZ cA a n (am - 1) 0 mk wv lo (va_up cf j c0) tf T mt im ++ OW o cJ fo) ++ MW cI cZ ad 0 n wv lo (va_up cf j c0) tf vs nr) := hD
      refine W.eq (g2 := F0 m 288 ls [.int 1, .int 1]) rfl ?_
      refine lv_icmp_eq (tgt := 927) hx hb dL_law_288 (by decide) (fun hq1 => ?_) (fun hq1 => absurd rfl hq1)
      refine W.widen (k := cells + 1) (n := slots + 6) (by omega) (by omega) ?_
      exact nx n (am - 1) 0 mk wv lo (va_up cf j c0) tf T mt im 0 vs nr fo (hI.drop hj hc0j) H locs hP hD hS ls (lv_sub hl [0, 1, 2, 3, 4] rfl)
  · refine lv_aload_n hx hb dL_law_268 rfl (lv_at hl 1 rfl) ?_
    refine lv_aload_n hx hb dL_law_269 rfl (lv_at hl 0 rfl) ?_
    refine lv_iload hx hb dL_law_270 (lv_at hl 4 rfl) ?_
    refine lv_iconst (v := 1) hx hb dL_law_272 (by decide) ?_
    refine lv_iadd hx hb dL_law_273 ?_
    refine ga_is (y := nI (i + 1)) (nI_add i 1) ?_
    refine ga_sld hx hb hX hbl hbA hS (i + 1) (by omega) hL dL_law_274 ?_
    refine W.callR (r := 0) (W.runV (As := [.int (xs (i + 1))]) (rest := []) ⟨hx, hb, hml, hown, hts⟩ (kX0_drop_n l dC dI cI cZ cA a n am rf mk wv lo cf tf T mt im (xs (i + 1)) hn4 hno) (cwV 1 hts gL_law_X0_drop rfl rfl rfl (by decide +kernel) ⟨Nat.le_of_ble_eq_true rfl, Nat.le_of_ble_eq_true rfl⟩) ⟨blindR, va_recv hKg (pL (pL hP)) (ci := 0) (q0 := 0) rfl rfl, preR (pL (pL hP)) hKg⟩ rfl rfl hl.1 rfl (lv_room (Nat.le_of_ble_eq_true rfl)) dL_law_275 hc0) ?_
    refine W.eq (g2 := F0 m 278 ls [.int 0]) rfl ?_
    refine lv_aload_n hx hb dL_law_278 rfl (lv_at hl 2 rfl) ?_
    refine lv_aload_n hx hb dL_law_279 rfl (lv_at hl 0 rfl) ?_
    refine lv_iload hx hb dL_law_280 (lv_at hl 4 rfl) ?_
    refine lv_iconst (v := 1) hx hb dL_law_282 (by decide) ?_
    refine lv_iadd hx hb dL_law_283 ?_
    refine ga_is (y := nI (i + 1)) (nI_add i 1) ?_
    refine ga_sld hx hb hX hbl hbA hS (i + 1) (by omega) hL dL_law_284 ?_
    have hF := freeR hD hS hA
    refine va_calli (va_runV (As := [.int (xs (i + 1))]) (rest := [.int 0]) ⟨hx, hb, hml, hown, hts⟩ (kX1_drop_n l dC dI cI cZ cA ad H.size th n wv lo cf tf vs nr (xs (i + 1)) hno) (cwV 1 hts gL_law_X1_drop rfl rfl rfl (by decide +kernel) ⟨Nat.le_of_ble_eq_true rfl, Nat.le_of_ble_eq_true rfl⟩) ⟨blindW, va_recv hKg (pR hP) (ci := 1) (q0 := 0) rfl rfl, preW (pR hP) hKg (dR hD)⟩ rfl rfl hl.1 rfl (lv_room (Nat.le_of_ble_eq_true rfl)) dL_law_285 hc0) hS (fun q _ h => hF q h) hF (fun r_ u tS H1 locs htS hvm hw hB9 hz1 hk1 hS => ?_)
    obtain ⟨hP1, hK1, hD1⟩ := hB9
    rw [htS] at hP1
    obtain ⟨hP, hD⟩ := joinR hP hD hk1 hF hP1 hD1
    generalize H1 = H at hP hS ⊢
    obtain rfl : r_ = 0 := hw
    have hP : va_P (dC, dI) vwCl ((XW cI cZ cA a n am rf mk wv lo cf tf T mt im ++ OW o cJ fo) ++ MW cI cZ ad 0 n wv lo cf tf vs nr) H := hP
    have hD : va_D (fun q : Nat => s.heap.size ≤ q) ((XW cI cZ cA a n am rf mk wv lo cf tf T mt im ++ OW o cJ fo) ++ MW cI cZ ad 0 n wv lo cf tf vs nr) := hD
    refine W.eq (g2 := F0 m 288 ls [.int 0, .int 0]) rfl ?_
    refine lv_icmp_eq (tgt := 927) hx hb dL_law_288 (by decide) (fun hq1 => ?_) (fun hq1 => absurd rfl hq1)
    refine W.widen (k := cells + 1) (n := slots + 6) (by omega) (by omega) ?_
    exact nx n am rf mk wv lo cf tf T mt im 0 vs nr fo (hI) H locs hP hD hS ls (lv_sub hl [0, 1, 2, 3, 4] rfl)
set_option maxHeartbeats 4000000 in
set_option maxRecDepth 100000 in
theorem law_change {p : Program} {l : Launch} {e : Env} {s : State} {m : MethodId} {below : List Frame} {meth : Method} {c : Code} {b L : Nat} {xs : Nat → Int32} (hL : L ≤ 2049) (C0 : lw_At p s m meth c b L xs) (hl9 : l.stackTraces = false) {dC : Nat → ClassId} {dI : Nat → Nat → Nat} {cI cZ cA cJ : ClassId} {sa : Nat → Nat} (hK : va_K (dC, dI) vwCl (GJ cI cZ cA cJ) s) (hE : EX sa (fun q : Nat => s.heap.size ≤ q) s s.heap) {a ad : Nat → Nat} {o i : Nat} (hi : i + 4 ≤ L) {cells slots : Nat} (hcs : cells + 1 ≤ 601024 ∧ slots + 6 ≤ 7293000) (nx : LNx p l e s m below meth c b dC dI cI cZ cA cJ a ad o i (cells + 1) (slots + 6)) (n am rf mk : Nat) (wv lo : Nat → Int32) (cf tf : Nat → Nat) (T : Nat → Nat → Int32) (mt : Nat → Nat) (im : Nat → Int32) (th : Nat) (vs : Nat → Int32) (nr : Nat → Nat) (fo : Nat → Int64) (hI : LInv n am rf mk wv lo cf tf T mt im) (H : Heap) (locs : List Loc) (hP : va_P (dC, dI) vwCl ((XW cI cZ cA a n am rf mk wv lo cf tf T mt im ++ OW o cJ fo) ++ MW cI cZ ad th n wv lo cf tf vs nr) H) (hD : va_D (fun q : Nat => s.heap.size ≤ q) ((XW cI cZ cA a n am rf mk wv lo cf tf T mt im ++ OW o cJ fo) ++ MW cI cZ ad th n wv lo cf tf vs nr)) (hS : va_S (fun q : Nat => s.heap.size ≤ q) s.heap H locs) (ls : Array Slot) (hl : lv_has ls 7 [(0, .ref b), (1, .ref (a 0)), (2, .ref (ad 0)), (3, .ref o), (4, .int (nI i))]) : W p l e room_1 s m #[Value.ref b] below meth c H locs cells slots (lw_Z below #[Value.ref b] s) (F0 m 293 ls []) := by
  obtain ⟨hx, hb, hr, hml, hown, hts0, hX, hbl, hlocks, hgv⟩ := C0
  have hts : ∀ w ∈ wsL_law, w.before #[Value.ref b] s = true := fun w h => hts0 w (wsL_law_in w h)
  have hown : s.vm.findClass RL = some m.cls := hown
  have hA : ∀ q : Nat, s.heap.size ≤ q → (fun q : Nat => s.heap.size ≤ q) q := fun _ h => h
  have hbA : ¬ (fun q : Nat => s.heap.size ≤ q) b := Nat.not_le.mpr hbl
  have hKg := hK.sub (tys' := GT cI cZ cA) [0, 1, 2] rfl
  obtain ⟨hG, hT, hM, hsm⟩ := id hI
  obtain ⟨hn4, hwr, hc, htt, hlo, hz0⟩ := id hG
  have hc0 : cells + 0 ≤ room_1.cells ∧ slots + 0 ≤ room_1.slots := ⟨by show cells + 0 ≤ 601024; omega, by show slots + 0 ≤ 7293000; omega⟩
  have hc1 : cells + 1 ≤ room_1.cells ∧ slots + 6 ≤ room_1.slots := hcs
  have hc2 : cells + 1 + 0 ≤ room_1.cells ∧ slots + 6 + 0 ≤ room_1.slots := hcs
  rcases isn_in (x := (xs (i + 1))) (n := n) (by omega) with ⟨-, j, hj, hv1⟩ | ⟨hno, -⟩
  · rcases iw_or (xs (i + 2)) with hv | hv
    · refine lv_aload_n hx hb dL_law_293 rfl (lv_at hl 1 rfl) ?_
      refine lv_aload_n hx hb dL_law_294 rfl (lv_at hl 0 rfl) ?_
      refine lv_iload hx hb dL_law_295 (lv_at hl 4 rfl) ?_
      refine lv_iconst (v := 1) hx hb dL_law_297 (by decide) ?_
      refine lv_iadd hx hb dL_law_298 ?_
      refine ga_is (y := nI (i + 1)) (nI_add i 1) ?_
      refine ga_sld hx hb hX hbl hbA hS (i + 1) (by omega) hL dL_law_299 ?_
      refine ga_is (y := nI j) (hv1) ?_
      refine lv_aload_n hx hb dL_law_300 rfl (lv_at hl 0 rfl) ?_
      refine lv_iload hx hb dL_law_301 (lv_at hl 4 rfl) ?_
      refine lv_iconst (v := 2) hx hb dL_law_303 (by decide) ?_
      refine lv_iadd hx hb dL_law_304 ?_
      refine ga_is (y := nI (i + 2)) (nI_add i 2) ?_
      refine ga_sld hx hb hX hbl hbA hS (i + 2) (by omega) hL dL_law_305 ?_
      refine lv_aload_n hx hb dL_law_306 rfl (lv_at hl 0 rfl) ?_
      refine lv_iload hx hb dL_law_307 (lv_at hl 4 rfl) ?_
      refine lv_iconst (v := 3) hx hb dL_law_309 (by decide) ?_
      refine lv_iadd hx hb dL_law_310 ?_
      refine ga_is (y := nI (i + 3)) (nI_add i 3) ?_
      refine ga_sld hx hb hX hbl hbA hS (i + 3) (by omega) hL dL_law_311 ?_
      suffices cont : W p l e room_1 s m #[Value.ref b] below meth c H locs cells slots (lw_Z below #[Value.ref b] s) (F0 m 320 ls [.int (bz (xs (i + 3))), .int (xs (i + 2)), .int (nI j), .ref (a 0)]) by
        refine lv_if_eq (tgt := 319) hx hb dL_law_312 (by decide) (fun hz9 => ?_) (fun hz9 => ?_)
        · refine lv_iconst (v := 0) hx hb dL_law_319 (by decide) ?_
          rw [show bz (xs (i + 3)) = 0 from if_pos hz9] at cont
          exact cont
        · refine lv_iconst (v := 1) hx hb dL_law_315 (by decide) ?_
          refine lv_goto (tgt := 320) hx hb dL_law_316 (by decide) ?_
          rw [show bz (xs (i + 3)) = 1 from if_neg hz9] at cont
          exact cont
      refine W.callR (r := 0) (W.runV (As := [.int (nI j), .int (xs (i + 2)), .int (bz (xs (i + 3)))]) (rest := []) ⟨hx, hb, hml, hown, hts⟩ (kX0_change_w l dC dI cI cZ cA a n am rf mk wv lo cf tf T mt im j (xs (i + 2)) (bz (xs (i + 3))) hn4 hj hv) (cwV 3 hts gL_law_X0_change rfl rfl rfl (by decide +kernel) ⟨Nat.le_of_ble_eq_true rfl, Nat.le_of_ble_eq_true rfl⟩) ⟨blindR, va_recv hKg (pL (pL hP)) (ci := 0) (q0 := 0) rfl rfl, preR (pL (pL hP)) hKg⟩ rfl rfl hl.1 rfl (lv_room (Nat.le_of_ble_eq_true rfl)) dL_law_320 hc0) ?_
      refine W.eq (g2 := F0 m 323 ls [.int 0]) rfl ?_
      refine lv_aload_n hx hb dL_law_323 rfl (lv_at hl 2 rfl) ?_
      refine lv_aload_n hx hb dL_law_324 rfl (lv_at hl 0 rfl) ?_
      refine lv_iload hx hb dL_law_325 (lv_at hl 4 rfl) ?_
      refine lv_iconst (v := 1) hx hb dL_law_327 (by decide) ?_
      refine lv_iadd hx hb dL_law_328 ?_
      refine ga_is (y := nI (i + 1)) (nI_add i 1) ?_
      refine ga_sld hx hb hX hbl hbA hS (i + 1) (by omega) hL dL_law_329 ?_
      refine ga_is (y := nI j) (hv1) ?_
      refine lv_aload_n hx hb dL_law_330 rfl (lv_at hl 0 rfl) ?_
      refine lv_iload hx hb dL_law_331 (lv_at hl 4 rfl) ?_
      refine lv_iconst (v := 2) hx hb dL_law_333 (by decide) ?_
      refine lv_iadd hx hb dL_law_334 ?_
      refine ga_is (y := nI (i + 2)) (nI_add i 2) ?_
      refine ga_sld hx hb hX hbl hbA hS (i + 2) (by omega) hL dL_law_335 ?_
      refine lv_aload_n hx hb dL_law_336 rfl (lv_at hl 0 rfl) ?_
      refine lv_iload hx hb dL_law_337 (lv_at hl 4 rfl) ?_
      refine lv_iconst (v := 3) hx hb dL_law_339 (by decide) ?_
      refine lv_iadd hx hb dL_law_340 ?_
      refine ga_is (y := nI (i + 3)) (nI_add i 3) ?_
      refine ga_sld hx hb hX hbl hbA hS (i + 3) (by omega) hL dL_law_341 ?_
      suffices cont : W p l e room_1 s m #[Value.ref b] below meth c H locs cells slots (lw_Z below #[Value.ref b] s) (F0 m 350 ls [.int (bz (xs (i + 3))), .int (xs (i + 2)), .int (nI j), .ref (ad 0), .int 0]) by
        refine lv_if_eq (tgt := 349) hx hb dL_law_342 (by decide) (fun hz9 => ?_) (fun hz9 => ?_)
        · refine lv_iconst (v := 0) hx hb dL_law_349 (by decide) ?_
          rw [show bz (xs (i + 3)) = 0 from if_pos hz9] at cont
          exact cont
        · refine lv_iconst (v := 1) hx hb dL_law_345 (by decide) ?_
          refine lv_goto (tgt := 350) hx hb dL_law_346 (by decide) ?_
          rw [show bz (xs (i + 3)) = 1 from if_neg hz9] at cont
          exact cont
      have hF := freeR hD hS hA
      refine va_calli (va_runV (As := [.int (nI j), .int (xs (i + 2)), .int (bz (xs (i + 3)))]) (rest := [.int 0]) ⟨hx, hb, hml, hown, hts⟩ (kX1_change_w l dC dI cI cZ cA ad H.size th n wv lo cf tf vs nr j (xs (i + 2)) (bz (xs (i + 3))) hn4 hj hv) (cwV 3 hts gL_law_X1_change rfl rfl rfl (by decide +kernel) ⟨Nat.le_of_ble_eq_true rfl, Nat.le_of_ble_eq_true rfl⟩) ⟨blindW, va_recv hKg (pR hP) (ci := 1) (q0 := 0) rfl rfl, preW (pR hP) hKg (dR hD)⟩ rfl rfl hl.1 rfl (lv_room (Nat.le_of_ble_eq_true rfl)) dL_law_350 hc0) hS (fun q _ h => hF q h) hF (fun r_ u tS H1 locs htS hvm hw hB9 hz1 hk1 hS => ?_)
      obtain ⟨hP1, hK1, hD1⟩ := hB9
      rw [htS] at hP1
      obtain ⟨hP, hD⟩ := joinR hP hD hk1 hF hP1 hD1
      generalize H1 = H at hP hS ⊢
      obtain rfl : r_ = 0 := hw
      have hP : va_P (dC, dI) vwCl ((XW cI cZ cA a n am rf mk wv lo cf tf T mt im ++ OW o cJ fo) ++ MW cI cZ ad 0 n wv lo cf tf vs nr) H := hP
      have hD : va_D (fun q : Nat => s.heap.size ≤ q) ((XW cI cZ cA a n am rf mk wv lo cf tf T mt im ++ OW o cJ fo) ++ MW cI cZ ad 0 n wv lo cf tf vs nr) := hD
      refine W.eq (g2 := F0 m 353 ls [.int 0, .int 0]) rfl ?_
      refine lv_icmp_eq (tgt := 927) hx hb dL_law_353 (by decide) (fun hq1 => ?_) (fun hq1 => absurd rfl hq1)
      refine W.widen (k := cells + 1) (n := slots + 6) (by omega) (by omega) ?_
      exact nx n am rf mk wv lo cf tf T mt im 0 vs nr fo (hI) H locs hP hD hS ls (lv_sub hl [0, 1, 2, 3, 4] rfl)
    · refine lv_aload_n hx hb dL_law_293 rfl (lv_at hl 1 rfl) ?_
      refine lv_aload_n hx hb dL_law_294 rfl (lv_at hl 0 rfl) ?_
      refine lv_iload hx hb dL_law_295 (lv_at hl 4 rfl) ?_
      refine lv_iconst (v := 1) hx hb dL_law_297 (by decide) ?_
      refine lv_iadd hx hb dL_law_298 ?_
      refine ga_is (y := nI (i + 1)) (nI_add i 1) ?_
      refine ga_sld hx hb hX hbl hbA hS (i + 1) (by omega) hL dL_law_299 ?_
      refine ga_is (y := nI j) (hv1) ?_
      refine lv_aload_n hx hb dL_law_300 rfl (lv_at hl 0 rfl) ?_
      refine lv_iload hx hb dL_law_301 (lv_at hl 4 rfl) ?_
      refine lv_iconst (v := 2) hx hb dL_law_303 (by decide) ?_
      refine lv_iadd hx hb dL_law_304 ?_
      refine ga_is (y := nI (i + 2)) (nI_add i 2) ?_
      refine ga_sld hx hb hX hbl hbA hS (i + 2) (by omega) hL dL_law_305 ?_
      refine lv_aload_n hx hb dL_law_306 rfl (lv_at hl 0 rfl) ?_
      refine lv_iload hx hb dL_law_307 (lv_at hl 4 rfl) ?_
      refine lv_iconst (v := 3) hx hb dL_law_309 (by decide) ?_
      refine lv_iadd hx hb dL_law_310 ?_
      refine ga_is (y := nI (i + 3)) (nI_add i 3) ?_
      refine ga_sld hx hb hX hbl hbA hS (i + 3) (by omega) hL dL_law_311 ?_
      suffices cont : W p l e room_1 s m #[Value.ref b] below meth c H locs cells slots (lw_Z below #[Value.ref b] s) (F0 m 320 ls [.int (bz (xs (i + 3))), .int (xs (i + 2)), .int (nI j), .ref (a 0)]) by
        refine lv_if_eq (tgt := 319) hx hb dL_law_312 (by decide) (fun hz9 => ?_) (fun hz9 => ?_)
        · refine lv_iconst (v := 0) hx hb dL_law_319 (by decide) ?_
          rw [show bz (xs (i + 3)) = 0 from if_pos hz9] at cont
          exact cont
        · refine lv_iconst (v := 1) hx hb dL_law_315 (by decide) ?_
          refine lv_goto (tgt := 320) hx hb dL_law_316 (by decide) ?_
          rw [show bz (xs (i + 3)) = 1 from if_neg hz9] at cont
          exact cont
      have hP := assocP hP
      have hD := assocD hD
      have hF := freeL hD hS hA
      refine va_calli (va_runV (As := [.int (nI j), .int (xs (i + 2)), .int (bz (xs (i + 3)))]) (rest := []) ⟨hx, hb, hml, hown, hts⟩ (kX0_change l dC dI cI cZ cA a H.size n am rf mk wv lo cf tf T mt im j (xs (i + 2)) (bz (xs (i + 3))) hn4 hj hv (bz_01 _)) (cwV 3 hts gL_law_X0_change rfl rfl rfl (by decide +kernel) ⟨Nat.le_of_ble_eq_true rfl, Nat.le_of_ble_eq_true rfl⟩) ⟨blindW, va_recv hKg (pL hP) (ci := 0) (q0 := 0) rfl rfl, preW (pL hP) hKg (dL hD)⟩ rfl rfl hl.1 rfl (lv_room (Nat.le_of_ble_eq_true rfl)) dL_law_320 hc0) hS (fun q _ h => hF q h) hF (fun r_ u tS H1 locs htS hvm hw hB9 hz1 hk1 hS => ?_)
      obtain ⟨hP1, hK1, hD1⟩ := hB9
      rw [htS] at hP1
      obtain ⟨hP, hD⟩ := joinL hP hD hk1 hF hP1 hD1
      have hP := cossaP hP
      have hD := cossaD hD
      generalize H1 = H at hP hS ⊢
      obtain rfl : r_ = 1 := hw
      have hP : va_P (dC, dI) vwCl ((XW cI cZ cA a n am 0 mk (upd wv j (xs (i + 2))) (upd lo j (bz (xs (i + 3)))) cf tf T mt im ++ OW o cJ fo) ++ MW cI cZ ad th n wv lo cf tf vs nr) H := hP
      have hD : va_D (fun q : Nat => s.heap.size ≤ q) ((XW cI cZ cA a n am 0 mk (upd wv j (xs (i + 2))) (upd lo j (bz (xs (i + 3)))) cf tf T mt im ++ OW o cJ fo) ++ MW cI cZ ad th n wv lo cf tf vs nr) := hD
      refine W.eq (g2 := F0 m 323 ls [.int 1]) rfl ?_
      refine lv_aload_n hx hb dL_law_323 rfl (lv_at hl 2 rfl) ?_
      refine lv_aload_n hx hb dL_law_324 rfl (lv_at hl 0 rfl) ?_
      refine lv_iload hx hb dL_law_325 (lv_at hl 4 rfl) ?_
      refine lv_iconst (v := 1) hx hb dL_law_327 (by decide) ?_
      refine lv_iadd hx hb dL_law_328 ?_
      refine ga_is (y := nI (i + 1)) (nI_add i 1) ?_
      refine ga_sld hx hb hX hbl hbA hS (i + 1) (by omega) hL dL_law_329 ?_
      refine ga_is (y := nI j) (hv1) ?_
      refine lv_aload_n hx hb dL_law_330 rfl (lv_at hl 0 rfl) ?_
      refine lv_iload hx hb dL_law_331 (lv_at hl 4 rfl) ?_
      refine lv_iconst (v := 2) hx hb dL_law_333 (by decide) ?_
      refine lv_iadd hx hb dL_law_334 ?_
      refine ga_is (y := nI (i + 2)) (nI_add i 2) ?_
      refine ga_sld hx hb hX hbl hbA hS (i + 2) (by omega) hL dL_law_335 ?_
      refine lv_aload_n hx hb dL_law_336 rfl (lv_at hl 0 rfl) ?_
      refine lv_iload hx hb dL_law_337 (lv_at hl 4 rfl) ?_
      refine lv_iconst (v := 3) hx hb dL_law_339 (by decide) ?_
      refine lv_iadd hx hb dL_law_340 ?_
      refine ga_is (y := nI (i + 3)) (nI_add i 3) ?_
      refine ga_sld hx hb hX hbl hbA hS (i + 3) (by omega) hL dL_law_341 ?_
      suffices cont : W p l e room_1 s m #[Value.ref b] below meth c H locs cells slots (lw_Z below #[Value.ref b] s) (F0 m 350 ls [.int (bz (xs (i + 3))), .int (xs (i + 2)), .int (nI j), .ref (ad 0), .int 1]) by
        refine lv_if_eq (tgt := 349) hx hb dL_law_342 (by decide) (fun hz9 => ?_) (fun hz9 => ?_)
        · refine lv_iconst (v := 0) hx hb dL_law_349 (by decide) ?_
          rw [show bz (xs (i + 3)) = 0 from if_pos hz9] at cont
          exact cont
        · refine lv_iconst (v := 1) hx hb dL_law_345 (by decide) ?_
          refine lv_goto (tgt := 350) hx hb dL_law_346 (by decide) ?_
          rw [show bz (xs (i + 3)) = 1 from if_neg hz9] at cont
          exact cont
      have hF := freeR hD hS hA
      refine va_calli (va_runV (As := [.int (nI j), .int (xs (i + 2)), .int (bz (xs (i + 3)))]) (rest := [.int 1]) ⟨hx, hb, hml, hown, hts⟩ (kX1_change l dC dI cI cZ cA ad H.size th n wv lo cf tf vs nr j (xs (i + 2)) (bz (xs (i + 3))) hn4 hj hv (bz_01 _)) (cwV 3 hts gL_law_X1_change rfl rfl rfl (by decide +kernel) ⟨Nat.le_of_ble_eq_true rfl, Nat.le_of_ble_eq_true rfl⟩) ⟨blindW, va_recv hKg (pR hP) (ci := 1) (q0 := 0) rfl rfl, preW (pR hP) hKg (dR hD)⟩ rfl rfl hl.1 rfl (lv_room (Nat.le_of_ble_eq_true rfl)) dL_law_350 hc0) hS (fun q _ h => hF q h) hF (fun r_ u tS H1 locs htS hvm hw hB9 hz1 hk1 hS => ?_)
      obtain ⟨hP1, hK1, hD1⟩ := hB9
      rw [htS] at hP1
      obtain ⟨hP, hD⟩ := joinR hP hD hk1 hF hP1 hD1
      generalize H1 = H at hP hS ⊢
      obtain rfl : r_ = 1 := hw
      have hP : va_P (dC, dI) vwCl ((XW cI cZ cA a n am 0 mk (upd wv j (xs (i + 2))) (upd lo j (bz (xs (i + 3)))) cf tf T mt im ++ OW o cJ fo) ++ MW cI cZ ad 0 n (upd wv j (xs (i + 2))) (upd lo j (bz (xs (i + 3)))) cf tf vs nr) H := hP
      have hD : va_D (fun q : Nat => s.heap.size ≤ q) ((XW cI cZ cA a n am 0 mk (upd wv j (xs (i + 2))) (upd lo j (bz (xs (i + 3)))) cf tf T mt im ++ OW o cJ fo) ++ MW cI cZ ad 0 n (upd wv j (xs (i + 2))) (upd lo j (bz (xs (i + 3)))) cf tf vs nr) := hD
      refine W.eq (g2 := F0 m 353 ls [.int 1, .int 1]) rfl ?_
      refine lv_icmp_eq (tgt := 927) hx hb dL_law_353 (by decide) (fun hq1 => ?_) (fun hq1 => absurd rfl hq1)
      refine W.widen (k := cells + 1) (n := slots + 6) (by omega) (by omega) ?_
      exact nx n am 0 mk (upd wv j (xs (i + 2))) (upd lo j (bz (xs (i + 3)))) cf tf T mt im 0 vs nr fo (hI.change hv (bz_01 _)) H locs hP hD hS ls (lv_sub hl [0, 1, 2, 3, 4] rfl)
  · refine lv_aload_n hx hb dL_law_293 rfl (lv_at hl 1 rfl) ?_
    refine lv_aload_n hx hb dL_law_294 rfl (lv_at hl 0 rfl) ?_
    refine lv_iload hx hb dL_law_295 (lv_at hl 4 rfl) ?_
    refine lv_iconst (v := 1) hx hb dL_law_297 (by decide) ?_
    refine lv_iadd hx hb dL_law_298 ?_
    refine ga_is (y := nI (i + 1)) (nI_add i 1) ?_
    refine ga_sld hx hb hX hbl hbA hS (i + 1) (by omega) hL dL_law_299 ?_
    refine lv_aload_n hx hb dL_law_300 rfl (lv_at hl 0 rfl) ?_
    refine lv_iload hx hb dL_law_301 (lv_at hl 4 rfl) ?_
    refine lv_iconst (v := 2) hx hb dL_law_303 (by decide) ?_
    refine lv_iadd hx hb dL_law_304 ?_
    refine ga_is (y := nI (i + 2)) (nI_add i 2) ?_
    refine ga_sld hx hb hX hbl hbA hS (i + 2) (by omega) hL dL_law_305 ?_
    refine lv_aload_n hx hb dL_law_306 rfl (lv_at hl 0 rfl) ?_
    refine lv_iload hx hb dL_law_307 (lv_at hl 4 rfl) ?_
    refine lv_iconst (v := 3) hx hb dL_law_309 (by decide) ?_
    refine lv_iadd hx hb dL_law_310 ?_
    refine ga_is (y := nI (i + 3)) (nI_add i 3) ?_
    refine ga_sld hx hb hX hbl hbA hS (i + 3) (by omega) hL dL_law_311 ?_
    suffices cont : W p l e room_1 s m #[Value.ref b] below meth c H locs cells slots (lw_Z below #[Value.ref b] s) (F0 m 320 ls [.int (bz (xs (i + 3))), .int (xs (i + 2)), .int (xs (i + 1)), .ref (a 0)]) by
      refine lv_if_eq (tgt := 319) hx hb dL_law_312 (by decide) (fun hz9 => ?_) (fun hz9 => ?_)
      · refine lv_iconst (v := 0) hx hb dL_law_319 (by decide) ?_
        rw [show bz (xs (i + 3)) = 0 from if_pos hz9] at cont
        exact cont
      · refine lv_iconst (v := 1) hx hb dL_law_315 (by decide) ?_
        refine lv_goto (tgt := 320) hx hb dL_law_316 (by decide) ?_
        rw [show bz (xs (i + 3)) = 1 from if_neg hz9] at cont
        exact cont
    refine W.callR (r := 0) (W.runV (As := [.int (xs (i + 1)), .int (xs (i + 2)), .int (bz (xs (i + 3)))]) (rest := []) ⟨hx, hb, hml, hown, hts⟩ (kX0_change_n l dC dI cI cZ cA a n am rf mk wv lo cf tf T mt im (xs (i + 1)) (xs (i + 2)) (bz (xs (i + 3))) hn4 hno) (cwV 3 hts gL_law_X0_change rfl rfl rfl (by decide +kernel) ⟨Nat.le_of_ble_eq_true rfl, Nat.le_of_ble_eq_true rfl⟩) ⟨blindR, va_recv hKg (pL (pL hP)) (ci := 0) (q0 := 0) rfl rfl, preR (pL (pL hP)) hKg⟩ rfl rfl hl.1 rfl (lv_room (Nat.le_of_ble_eq_true rfl)) dL_law_320 hc0) ?_
    refine W.eq (g2 := F0 m 323 ls [.int 0]) rfl ?_
    refine lv_aload_n hx hb dL_law_323 rfl (lv_at hl 2 rfl) ?_
    refine lv_aload_n hx hb dL_law_324 rfl (lv_at hl 0 rfl) ?_
    refine lv_iload hx hb dL_law_325 (lv_at hl 4 rfl) ?_
    refine lv_iconst (v := 1) hx hb dL_law_327 (by decide) ?_
    refine lv_iadd hx hb dL_law_328 ?_
    refine ga_is (y := nI (i + 1)) (nI_add i 1) ?_
    refine ga_sld hx hb hX hbl hbA hS (i + 1) (by omega) hL dL_law_329 ?_
    refine lv_aload_n hx hb dL_law_330 rfl (lv_at hl 0 rfl) ?_
    refine lv_iload hx hb dL_law_331 (lv_at hl 4 rfl) ?_
    refine lv_iconst (v := 2) hx hb dL_law_333 (by decide) ?_
    refine lv_iadd hx hb dL_law_334 ?_
    refine ga_is (y := nI (i + 2)) (nI_add i 2) ?_
    refine ga_sld hx hb hX hbl hbA hS (i + 2) (by omega) hL dL_law_335 ?_
    refine lv_aload_n hx hb dL_law_336 rfl (lv_at hl 0 rfl) ?_
    refine lv_iload hx hb dL_law_337 (lv_at hl 4 rfl) ?_
    refine lv_iconst (v := 3) hx hb dL_law_339 (by decide) ?_
    refine lv_iadd hx hb dL_law_340 ?_
    refine ga_is (y := nI (i + 3)) (nI_add i 3) ?_
    refine ga_sld hx hb hX hbl hbA hS (i + 3) (by omega) hL dL_law_341 ?_
    suffices cont : W p l e room_1 s m #[Value.ref b] below meth c H locs cells slots (lw_Z below #[Value.ref b] s) (F0 m 350 ls [.int (bz (xs (i + 3))), .int (xs (i + 2)), .int (xs (i + 1)), .ref (ad 0), .int 0]) by
      refine lv_if_eq (tgt := 349) hx hb dL_law_342 (by decide) (fun hz9 => ?_) (fun hz9 => ?_)
      · refine lv_iconst (v := 0) hx hb dL_law_349 (by decide) ?_
        rw [show bz (xs (i + 3)) = 0 from if_pos hz9] at cont
        exact cont
      · refine lv_iconst (v := 1) hx hb dL_law_345 (by decide) ?_
        refine lv_goto (tgt := 350) hx hb dL_law_346 (by decide) ?_
        rw [show bz (xs (i + 3)) = 1 from if_neg hz9] at cont
        exact cont
    have hF := freeR hD hS hA
    refine va_calli (va_runV (As := [.int (xs (i + 1)), .int (xs (i + 2)), .int (bz (xs (i + 3)))]) (rest := [.int 0]) ⟨hx, hb, hml, hown, hts⟩ (kX1_change_n l dC dI cI cZ cA ad H.size th n wv lo cf tf vs nr (xs (i + 1)) (xs (i + 2)) (bz (xs (i + 3))) hno) (cwV 3 hts gL_law_X1_change rfl rfl rfl (by decide +kernel) ⟨Nat.le_of_ble_eq_true rfl, Nat.le_of_ble_eq_true rfl⟩) ⟨blindW, va_recv hKg (pR hP) (ci := 1) (q0 := 0) rfl rfl, preW (pR hP) hKg (dR hD)⟩ rfl rfl hl.1 rfl (lv_room (Nat.le_of_ble_eq_true rfl)) dL_law_350 hc0) hS (fun q _ h => hF q h) hF (fun r_ u tS H1 locs htS hvm hw hB9 hz1 hk1 hS => ?_)
    obtain ⟨hP1, hK1, hD1⟩ := hB9
    rw [htS] at hP1
    obtain ⟨hP, hD⟩ := joinR hP hD hk1 hF hP1 hD1
    generalize H1 = H at hP hS ⊢
    obtain rfl : r_ = 0 := hw
    have hP : va_P (dC, dI) vwCl ((XW cI cZ cA a n am rf mk wv lo cf tf T mt im ++ OW o cJ fo) ++ MW cI cZ ad 0 n wv lo cf tf vs nr) H := hP
    have hD : va_D (fun q : Nat => s.heap.size ≤ q) ((XW cI cZ cA a n am rf mk wv lo cf tf T mt im ++ OW o cJ fo) ++ MW cI cZ ad 0 n wv lo cf tf vs nr) := hD
    refine W.eq (g2 := F0 m 353 ls [.int 0, .int 0]) rfl ?_
    refine lv_icmp_eq (tgt := 927) hx hb dL_law_353 (by decide) (fun hq1 => ?_) (fun hq1 => absurd rfl hq1)
    refine W.widen (k := cells + 1) (n := slots + 6) (by omega) (by omega) ?_
    exact nx n am rf mk wv lo cf tf T mt im 0 vs nr fo (hI) H locs hP hD hS ls (lv_sub hl [0, 1, 2, 3, 4] rfl)
set_option maxHeartbeats 4000000 in
set_option maxRecDepth 100000 in
theorem law_of {p : Program} {l : Launch} {e : Env} {s : State} {m : MethodId} {below : List Frame} {meth : Method} {c : Code} {b L : Nat} {xs : Nat → Int32} (hL : L ≤ 2049) (C0 : lw_At p s m meth c b L xs) (hl9 : l.stackTraces = false) {dC : Nat → ClassId} {dI : Nat → Nat → Nat} {cI cZ cA cJ : ClassId} {sa : Nat → Nat} (hK : va_K (dC, dI) vwCl (GJ cI cZ cA cJ) s) (hE : EX sa (fun q : Nat => s.heap.size ≤ q) s s.heap) {a ad : Nat → Nat} {o i : Nat} (hi : i + 4 ≤ L) {cells slots : Nat} (hcs : cells + 1 ≤ 601024 ∧ slots + 6 ≤ 7293000) (nx : LNx p l e s m below meth c b dC dI cI cZ cA cJ a ad o i (cells + 1) (slots + 6)) (n am rf mk : Nat) (wv lo : Nat → Int32) (cf tf : Nat → Nat) (T : Nat → Nat → Int32) (mt : Nat → Nat) (im : Nat → Int32) (th : Nat) (vs : Nat → Int32) (nr : Nat → Nat) (fo : Nat → Int64) (hI : LInv n am rf mk wv lo cf tf T mt im) (H : Heap) (locs : List Loc) (hP : va_P (dC, dI) vwCl ((XW cI cZ cA a n am rf mk wv lo cf tf T mt im ++ OW o cJ fo) ++ MW cI cZ ad th n wv lo cf tf vs nr) H) (hD : va_D (fun q : Nat => s.heap.size ≤ q) ((XW cI cZ cA a n am rf mk wv lo cf tf T mt im ++ OW o cJ fo) ++ MW cI cZ ad th n wv lo cf tf vs nr)) (hS : va_S (fun q : Nat => s.heap.size ≤ q) s.heap H locs) (ls : Array Slot) (hl : lv_has ls 7 [(0, .ref b), (1, .ref (a 0)), (2, .ref (ad 0)), (3, .ref o), (4, .int (nI i))]) : W p l e room_1 s m #[Value.ref b] below meth c H locs cells slots (lw_Z below #[Value.ref b] s) (F0 m 797 ls []) := by
  obtain ⟨hx, hb, hr, hml, hown, hts0, hX, hbl, hlocks, hgv⟩ := C0
  have hts : ∀ w ∈ wsL_law, w.before #[Value.ref b] s = true := fun w h => hts0 w (wsL_law_in w h)
  have hown : s.vm.findClass RL = some m.cls := hown
  have hA : ∀ q : Nat, s.heap.size ≤ q → (fun q : Nat => s.heap.size ≤ q) q := fun _ h => h
  have hbA : ¬ (fun q : Nat => s.heap.size ≤ q) b := Nat.not_le.mpr hbl
  have hKg := hK.sub (tys' := GT cI cZ cA) [0, 1, 2] rfl
  obtain ⟨hG, hT, hM, hsm⟩ := id hI
  obtain ⟨hn4, hwr, hc, htt, hlo, hz0⟩ := id hG
  have hc0 : cells + 0 ≤ room_1.cells ∧ slots + 0 ≤ room_1.slots := ⟨by show cells + 0 ≤ 601024; omega, by show slots + 0 ≤ 7293000; omega⟩
  have hc1 : cells + 1 ≤ room_1.cells ∧ slots + 6 ≤ room_1.slots := hcs
  have hc2 : cells + 1 + 0 ≤ room_1.cells ∧ slots + 6 + 0 ≤ room_1.slots := hcs
  refine lv_aload_n hx hb dL_law_797 rfl (lv_at hl 1 rfl) ?_
  refine lv_aload_n hx hb dL_law_798 rfl (lv_at hl 0 rfl) ?_
  refine lv_iload hx hb dL_law_799 (lv_at hl 4 rfl) ?_
  refine lv_iconst (v := 1) hx hb dL_law_801 (by decide) ?_
  refine lv_iadd hx hb dL_law_802 ?_
  refine ga_is (y := nI (i + 1)) (nI_add i 1) ?_
  refine ga_sld hx hb hX hbl hbA hS (i + 1) (by omega) hL dL_law_803 ?_
  refine lv_aload_n hx hb dL_law_804 rfl (lv_at hl 0 rfl) ?_
  refine lv_iload hx hb dL_law_805 (lv_at hl 4 rfl) ?_
  refine lv_iconst (v := 2) hx hb dL_law_807 (by decide) ?_
  refine lv_iadd hx hb dL_law_808 ?_
  refine ga_is (y := nI (i + 2)) (nI_add i 2) ?_
  refine ga_sld hx hb hX hbl hbA hS (i + 2) (by omega) hL dL_law_809 ?_
  refine W.callR (r := off n wv lo cf tf (xs (i + 1)) (xs (i + 2))) (W.runV (As := [.int (xs (i + 1)), .int (xs (i + 2))]) (rest := []) ⟨hx, hb, hml, hown, hts⟩ (kX0_of l dC dI cI cZ cA a n am rf mk wv lo cf tf T mt im (xs (i + 1)) (xs (i + 2)) hn4 hc hlo) (cwV 2 hts gL_law_X0_of rfl rfl rfl (by decide +kernel) ⟨Nat.le_of_ble_eq_true rfl, Nat.le_of_ble_eq_true rfl⟩) ⟨blindR, va_recv hKg (pL (pL hP)) (ci := 0) (q0 := 0) rfl rfl, preR (pL (pL hP)) hKg⟩ rfl rfl hl.1 rfl (lv_room (Nat.le_of_ble_eq_true rfl)) dL_law_810 hc0) ?_
  refine W.eq (g2 := F0 m 813 ls [.int (off n wv lo cf tf (xs (i + 1)) (xs (i + 2)))]) rfl ?_
  refine lv_aload_n hx hb dL_law_813 rfl (lv_at hl 2 rfl) ?_
  refine lv_aload_n hx hb dL_law_814 rfl (lv_at hl 0 rfl) ?_
  refine lv_iload hx hb dL_law_815 (lv_at hl 4 rfl) ?_
  refine lv_iconst (v := 1) hx hb dL_law_817 (by decide) ?_
  refine lv_iadd hx hb dL_law_818 ?_
  refine ga_is (y := nI (i + 1)) (nI_add i 1) ?_
  refine ga_sld hx hb hX hbl hbA hS (i + 1) (by omega) hL dL_law_819 ?_
  refine lv_aload_n hx hb dL_law_820 rfl (lv_at hl 0 rfl) ?_
  refine lv_iload hx hb dL_law_821 (lv_at hl 4 rfl) ?_
  refine lv_iconst (v := 2) hx hb dL_law_823 (by decide) ?_
  refine lv_iadd hx hb dL_law_824 ?_
  refine ga_is (y := nI (i + 2)) (nI_add i 2) ?_
  refine ga_sld hx hb hX hbl hbA hS (i + 2) (by omega) hL dL_law_825 ?_
  have hF := freeR hD hS hA
  refine va_calli (va_runV (As := [.int (xs (i + 1)), .int (xs (i + 2))]) (rest := [.int (off n wv lo cf tf (xs (i + 1)) (xs (i + 2)))]) ⟨hx, hb, hml, hown, hts⟩ (kX1_of l dC dI cI cZ cA ad H.size th n wv lo cf tf vs nr (xs (i + 1)) (xs (i + 2)) hn4 hc hlo) (cwV 2 hts gL_law_X1_of rfl rfl rfl (by decide +kernel) ⟨Nat.le_of_ble_eq_true rfl, Nat.le_of_ble_eq_true rfl⟩) ⟨blindW, va_recv hKg (pR hP) (ci := 1) (q0 := 0) rfl rfl, preW (pR hP) hKg (dR hD)⟩ rfl rfl hl.1 rfl (lv_room (Nat.le_of_ble_eq_true rfl)) dL_law_826 hc0) hS (fun q _ h => hF q h) hF (fun r_ u tS H1 locs htS hvm hw hB9 hz1 hk1 hS => ?_)
  obtain ⟨hP1, hK1, hD1⟩ := hB9
  rw [htS] at hP1
  obtain ⟨hP, hD⟩ := joinR hP hD hk1 hF hP1 hD1
  generalize H1 = H at hP hS ⊢
  obtain rfl : r_ = off n wv lo cf tf (xs (i + 1)) (xs (i + 2)) := hw
  have hP : va_P (dC, dI) vwCl ((XW cI cZ cA a n am rf mk wv lo cf tf T mt im ++ OW o cJ fo) ++ MW cI cZ ad 0 n wv lo cf tf vs nr) H := hP
  have hD : va_D (fun q : Nat => s.heap.size ≤ q) ((XW cI cZ cA a n am rf mk wv lo cf tf T mt im ++ OW o cJ fo) ++ MW cI cZ ad 0 n wv lo cf tf vs nr) := hD
  refine W.eq (g2 := F0 m 829 ls [.int (off n wv lo cf tf (xs (i + 1)) (xs (i + 2))), .int (off n wv lo cf tf (xs (i + 1)) (xs (i + 2)))]) rfl ?_
  refine lv_icmp_eq (tgt := 927) hx hb dL_law_829 (by decide) (fun hq1 => ?_) (fun hq1 => absurd rfl hq1)
  refine W.widen (k := cells + 1) (n := slots + 6) (by omega) (by omega) ?_
  exact nx n am rf mk wv lo cf tf T mt im 0 vs nr fo (hI) H locs hP hD hS ls (lv_sub hl [0, 1, 2, 3, 4] rfl)
set_option maxHeartbeats 4000000 in
set_option maxRecDepth 100000 in
theorem law_look {p : Program} {l : Launch} {e : Env} {s : State} {m : MethodId} {below : List Frame} {meth : Method} {c : Code} {b L : Nat} {xs : Nat → Int32} (hL : L ≤ 2049) (C0 : lw_At p s m meth c b L xs) (hl9 : l.stackTraces = false) {dC : Nat → ClassId} {dI : Nat → Nat → Nat} {cI cZ cA cJ : ClassId} {sa : Nat → Nat} (hK : va_K (dC, dI) vwCl (GJ cI cZ cA cJ) s) (hE : EX sa (fun q : Nat => s.heap.size ≤ q) s s.heap) {a ad : Nat → Nat} {o i : Nat} (hi : i + 4 ≤ L) {cells slots : Nat} (hcs : cells + 1 ≤ 601024 ∧ slots + 6 ≤ 7293000) (nx : LNx p l e s m below meth c b dC dI cI cZ cA cJ a ad o i (cells + 1) (slots + 6)) (n am rf mk : Nat) (wv lo : Nat → Int32) (cf tf : Nat → Nat) (T : Nat → Nat → Int32) (mt : Nat → Nat) (im : Nat → Int32) (th : Nat) (vs : Nat → Int32) (nr : Nat → Nat) (fo : Nat → Int64) (hI : LInv n am rf mk wv lo cf tf T mt im) (H : Heap) (locs : List Loc) (hP : va_P (dC, dI) vwCl ((XW cI cZ cA a n am rf mk wv lo cf tf T mt im ++ OW o cJ fo) ++ MW cI cZ ad th n wv lo cf tf vs nr) H) (hD : va_D (fun q : Nat => s.heap.size ≤ q) ((XW cI cZ cA a n am rf mk wv lo cf tf T mt im ++ OW o cJ fo) ++ MW cI cZ ad th n wv lo cf tf vs nr)) (hS : va_S (fun q : Nat => s.heap.size ≤ q) s.heap H locs) (ls : Array Slot) (hl : lv_has ls 7 [(0, .ref b), (1, .ref (a 0)), (2, .ref (ad 0)), (3, .ref o), (4, .int (nI i))]) : W p l e room_1 s m #[Value.ref b] below meth c H locs cells slots (lw_Z below #[Value.ref b] s) (F0 m 902 ls []) := by
  obtain ⟨hx, hb, hr, hml, hown, hts0, hX, hbl, hlocks, hgv⟩ := C0
  have hts : ∀ w ∈ wsL_law, w.before #[Value.ref b] s = true := fun w h => hts0 w (wsL_law_in w h)
  have hown : s.vm.findClass RL = some m.cls := hown
  have hA : ∀ q : Nat, s.heap.size ≤ q → (fun q : Nat => s.heap.size ≤ q) q := fun _ h => h
  have hbA : ¬ (fun q : Nat => s.heap.size ≤ q) b := Nat.not_le.mpr hbl
  have hKg := hK.sub (tys' := GT cI cZ cA) [0, 1, 2] rfl
  obtain ⟨hG, hT, hM, hsm⟩ := id hI
  obtain ⟨hn4, hwr, hc, htt, hlo, hz0⟩ := id hG
  have hc0 : cells + 0 ≤ room_1.cells ∧ slots + 0 ≤ room_1.slots := ⟨by show cells + 0 ≤ 601024; omega, by show slots + 0 ≤ 7293000; omega⟩
  have hc1 : cells + 1 ≤ room_1.cells ∧ slots + 6 ≤ room_1.slots := hcs
  have hc2 : cells + 1 + 0 ≤ room_1.cells ∧ slots + 6 + 0 ≤ room_1.slots := hcs
  refine lv_aload_n hx hb dL_law_902 rfl (lv_at hl 1 rfl) ?_
  refine lv_aload_n hx hb dL_law_903 rfl (lv_at hl 0 rfl) ?_
  refine lv_iload hx hb dL_law_904 (lv_at hl 4 rfl) ?_
  refine lv_iconst (v := 1) hx hb dL_law_906 (by decide) ?_
  refine lv_iadd hx hb dL_law_907 ?_
  refine ga_is (y := nI (i + 1)) (nI_add i 1) ?_
  refine ga_sld hx hb hX hbl hbA hS (i + 1) (by omega) hL dL_law_908 ?_
  refine W.callR (r := lok n am (xs (i + 1))) (W.runV (As := [.int (xs (i + 1))]) (rest := []) ⟨hx, hb, hml, hown, hts⟩ (kX0_look l dC dI cI cZ cA a n am rf mk wv lo cf tf T mt im (xs (i + 1))) (cwV 1 hts gL_law_X0_look rfl rfl rfl (by decide +kernel) ⟨Nat.le_of_ble_eq_true rfl, Nat.le_of_ble_eq_true rfl⟩) ⟨blindR, va_recv hKg (pL (pL hP)) (ci := 0) (q0 := 0) rfl rfl, preR (pL (pL hP)) hKg⟩ rfl rfl hl.1 rfl (lv_room (Nat.le_of_ble_eq_true rfl)) dL_law_909 hc0) ?_
  refine W.eq (g2 := F0 m 912 ls [.int (lok n am (xs (i + 1)))]) rfl ?_
  refine lv_aload_n hx hb dL_law_912 rfl (lv_at hl 2 rfl) ?_
  refine lv_aload_n hx hb dL_law_913 rfl (lv_at hl 0 rfl) ?_
  refine lv_iload hx hb dL_law_914 (lv_at hl 4 rfl) ?_
  refine lv_iconst (v := 1) hx hb dL_law_916 (by decide) ?_
  refine lv_iadd hx hb dL_law_917 ?_
  refine ga_is (y := nI (i + 1)) (nI_add i 1) ?_
  refine ga_sld hx hb hX hbl hbA hS (i + 1) (by omega) hL dL_law_918 ?_
  have hF := freeR hD hS hA
  refine va_calli (va_runV (As := [.int (xs (i + 1))]) (rest := [.int (lok n am (xs (i + 1)))]) ⟨hx, hb, hml, hown, hts⟩ (kX1_look l dC dI cI cZ cA ad H.size th n wv lo cf tf vs nr (xs (i + 1)) hn4) (cwV 1 hts gL_law_X1_look rfl rfl rfl (by decide +kernel) ⟨Nat.le_of_ble_eq_true rfl, Nat.le_of_ble_eq_true rfl⟩) ⟨blindW, va_recv hKg (pR hP) (ci := 1) (q0 := 0) rfl rfl, preW (pR hP) hKg (dR hD)⟩ rfl rfl hl.1 rfl (lv_room (Nat.le_of_ble_eq_true rfl)) dL_law_919 hc0) hS (fun q _ h => hF q h) hF (fun r_ u tS H1 locs htS hvm hw hB9 hz1 hk1 hS => ?_)
  obtain ⟨hP1, hK1, hD1⟩ := hB9
  rw [htS] at hP1
  obtain ⟨hP, hD⟩ := joinR hP hD hk1 hF hP1 hD1
  generalize H1 = H at hP hS ⊢
  obtain rfl : r_ = lok n am (xs (i + 1)) := by rw [show r_ = lok n (sum_ cf n) (xs (i + 1)) from hw, hsm]
  have hP : va_P (dC, dI) vwCl ((XW cI cZ cA a n am rf mk wv lo cf tf T mt im ++ OW o cJ fo) ++ MW cI cZ ad 0 n wv lo cf tf vs nr) H := hP
  have hD : va_D (fun q : Nat => s.heap.size ≤ q) ((XW cI cZ cA a n am rf mk wv lo cf tf T mt im ++ OW o cJ fo) ++ MW cI cZ ad 0 n wv lo cf tf vs nr) := hD
  refine W.eq (g2 := F0 m 922 ls [.int (lok n am (xs (i + 1))), .int (lok n am (xs (i + 1)))]) rfl ?_
  refine lv_icmp_eq (tgt := 927) hx hb dL_law_922 (by decide) (fun hq1 => ?_) (fun hq1 => absurd rfl hq1)
  refine W.widen (k := cells + 1) (n := slots + 6) (by omega) (by omega) ?_
  exact nx n am rf mk wv lo cf tf T mt im 0 vs nr fo (hI) H locs hP hD hS ls (lv_sub hl [0, 1, 2, 3, 4] rfl)
