theorem isn_1 {j n : Nat} (hj : j < n) (hn : n < 2 ^ 31) : isn (nI j) n = 1 := by rw [isn, if_neg (nI_pos (by omega)), if_neg (nI_ge hj hn)]
set_option maxHeartbeats 4000000 in
set_option maxRecDepth 100000 in
/-- drop, no such node -/
theorem kX0_drop_n (l : Launch) (dC : Nat → ClassId) (dI : Nat → Nat → Nat) (cI cZ cA : ClassId) (a : Nat → Nat) (n : Nat) (am : Nat) (rf : Nat) (mk : Nat) (wv : Nat → Int32) (lo : Nat → Int32) (cf : Nat → Nat) (tf : Nat → Nat) (T : Nat → Nat → Int32) (mt : Nat → Nat) (im : Nat → Int32) (x : Int32) (hn4 : n ≤ 400) (hno : isn x n = 0) : Met l yX0_drop wsX0_drop ({ frames := 1, cells := 0, slots := 0, locals := 21 }) (va_Pc [.ref (a 0), .int x] (RP dC dI (GT cI cZ cA) (XW cI cZ cA a n am rf mk wv lo cf tf T mt im))) (QcRead 0) 0 0 (fun _ => False) := by
  refine Met.ofW (cc := cX0_drop) (maxL := 2) (ret := (some .boolean)) (by decide) rfl ?_
  intro p e s m args below meth c s₁ B hml hv
  obtain ⟨rfl, hP, hK⟩ := hv
  have hx := B.exec
  have hb := B.bytes
  have hr := B.returns
  have hts := atoms_spec (ws := wsX0_drop) B.pre
  have hown : s.vm.findClass RX0 = some m.cls := findClass_of_methodNamed B.named
  have hlocks := B.notSynchronized
  have hf_17 := hts (.fieldLink RX0 17 "GraphSearch" "moveCounts" "[I") (by decide +kernel)
  have hf_27 := hts (.fieldLink RX0 27 "GraphSearch" "allMoves" "I") (by decide +kernel)
  have hiw : ∀ w ∈ wsX00, w ∈ wsX0_drop := by decide +kernel
  have hl := lv_entry ([.ref (a 0), .int x]) (n := 2) (Nat.le_of_ble_eq_true rfl)
  rw [lg_entry_eq]
  generalize (lg_sl ([.ref (a 0), .int x]) ++ List.replicate (2 - (lg_sl ([.ref (a 0), .int x])).length) Slot.unset).toArray = ls at hl ⊢
  have hl : lv_has ls 2 [(0, .ref (a 0)), (1, .int x)] := hl
  refine lv_aload_n hx hb dX0_drop_0 rfl (lv_at hl 0 rfl) ?_
  refine lv_iload_n hx hb dX0_drop_1 rfl (lv_at hl 1 rfl) ?_
  refine W.callR (r := isn x n) (W.runV (As := [.int x]) (rest := []) ⟨hx, hb, hml, hown, hts⟩ (kX0_isNode l dC dI cI cZ cA a n am rf mk wv lo cf tf T mt im x) (cwV 1 hts gX0_drop_X0_isNode rfl rfl rfl (by decide +kernel) ⟨Nat.le_of_ble_eq_true rfl, Nat.le_of_ble_eq_true rfl⟩) ⟨blindR, va_recv hK hP (ci := 0) (q0 := 0) rfl rfl, preR hP hK⟩ rfl rfl hl.1 rfl (lv_room (Nat.le_of_ble_eq_true rfl)) dX0_drop_2 ⟨Nat.zero_le _, Nat.zero_le _⟩) ?_
  refine W.eq (g2 := F0 m 5 ls [.int (isn x n)]) rfl ?_
  refine lv_if_eq (tgt := 17) hx hb dX0_drop_5 (by decide) (fun h5 => ?_) (fun h5 => absurd hno h5)
  refine lv_iconst (v := 0) hx hb dX0_drop_17 (by decide) ?_
  exact W.zret (v := 0) hx hb hr (by decide) (fun t ht hW => ⟨rfl, ht⟩) (fun _ h => nomatch h) dX0_drop_18
set_option maxHeartbeats 4000000 in
set_option maxRecDepth 100000 in
/-- drop, a node without moves -/
theorem kX0_drop_z (l : Launch) (dC : Nat → ClassId) (dI : Nat → Nat → Nat) (cI cZ cA : ClassId) (a : Nat → Nat) (n : Nat) (am : Nat) (rf : Nat) (mk : Nat) (wv : Nat → Int32) (lo : Nat → Int32) (cf : Nat → Nat) (tf : Nat → Nat) (T : Nat → Nat → Int32) (mt : Nat → Nat) (im : Nat → Int32) (j : Nat) (hn4 : n ≤ 400) (hj : j < n) (hc : cf j = 0) : Met l yX0_drop wsX0_drop ({ frames := 1, cells := 0, slots := 0, locals := 21 }) (va_Pc [.ref (a 0), .int (nI j)] (RP dC dI (GT cI cZ cA) (XW cI cZ cA a n am rf mk wv lo cf tf T mt im))) (QcRead 0) 0 0 (fun _ => False) := by
  refine Met.ofW (cc := cX0_drop) (maxL := 2) (ret := (some .boolean)) (by decide) rfl ?_
  intro p e s m args below meth c s₁ B hml hv
  obtain ⟨rfl, hP, hK⟩ := hv
  have hx := B.exec
  have hb := B.bytes
  have hr := B.returns
  have hts := atoms_spec (ws := wsX0_drop) B.pre
  have hown : s.vm.findClass RX0 = some m.cls := findClass_of_methodNamed B.named
  have hlocks := B.notSynchronized
  have hf_17 := hts (.fieldLink RX0 17 "GraphSearch" "moveCounts" "[I") (by decide +kernel)
  have hf_27 := hts (.fieldLink RX0 27 "GraphSearch" "allMoves" "I") (by decide +kernel)
  have hiw : ∀ w ∈ wsX00, w ∈ wsX0_drop := by decide +kernel
  have hl := lv_entry ([.ref (a 0), .int (nI j)]) (n := 2) (Nat.le_of_ble_eq_true rfl)
  rw [lg_entry_eq]
  generalize (lg_sl ([.ref (a 0), .int (nI j)]) ++ List.replicate (2 - (lg_sl ([.ref (a 0), .int (nI j)])).length) Slot.unset).toArray = ls at hl ⊢
  have hl : lv_has ls 2 [(0, .ref (a 0)), (1, .int (nI j))] := hl
  refine lv_aload_n hx hb dX0_drop_0 rfl (lv_at hl 0 rfl) ?_
  refine lv_iload_n hx hb dX0_drop_1 rfl (lv_at hl 1 rfl) ?_
  refine W.callR (r := isn (nI j) n) (W.runV (As := [.int (nI j)]) (rest := []) ⟨hx, hb, hml, hown, hts⟩ (kX0_isNode l dC dI cI cZ cA a n am rf mk wv lo cf tf T mt im (nI j)) (cwV 1 hts gX0_drop_X0_isNode rfl rfl rfl (by decide +kernel) ⟨Nat.le_of_ble_eq_true rfl, Nat.le_of_ble_eq_true rfl⟩) ⟨blindR, va_recv hK hP (ci := 0) (q0 := 0) rfl rfl, preR hP hK⟩ rfl rfl hl.1 rfl (lv_room (Nat.le_of_ble_eq_true rfl)) dX0_drop_2 ⟨Nat.zero_le _, Nat.zero_le _⟩) ?_
  refine W.eq (g2 := F0 m 5 ls [.int (isn (nI j) n)]) rfl ?_
  refine lv_if_eq (tgt := 17) hx hb dX0_drop_5 (by decide) (fun h5 => absurd h5 (by rw [isn_1 hj (by omega)]; decide)) (fun h5 => ?_)
  refine lv_aload_n hx hb dX0_drop_8 rfl (lv_at hl 0 rfl) ?_
  refine va_get (D := (dC, dI)) (ci := 0) (v := .ref (a 3)) (C := RX0) (T := TX0) (N := 11) hx hb hts hiw hown hK hP 0 rfl rfl 2 (by decide) hf_17 (fun _ h9 => h9) rfl dX0_drop_9 ?_
  refine lv_iload_n hx hb dX0_drop_12 rfl (lv_at hl 1 rfl) ?_
  refine ga_iald hx hb hK hP 3 0 rfl rfl j (v := nI (cf j)) rfl (by omega) (by decide) dX0_drop_13 ?_
  refine lv_if_ne (tgt := 19) hx hb dX0_drop_14 (by decide) (fun h14 => absurd (show nI (cf j) = 0 by rw [hc]; rfl) h14) (fun h14 => ?_)
  refine lv_iconst (v := 0) hx hb dX0_drop_17 (by decide) ?_
  exact W.zret (v := 0) hx hb hr (by decide) (fun t ht hW => ⟨rfl, ht⟩) (fun _ h => nomatch h) dX0_drop_18
set_option maxHeartbeats 4000000 in
set_option maxRecDepth 100000 in
/-- drop -/
theorem kX0_drop (l : Launch) (dC : Nat → ClassId) (dI : Nat → Nat → Nat) (cI cZ cA : ClassId) (a : Nat → Nat) (sz : Nat) (n : Nat) (am : Nat) (rf : Nat) (mk : Nat) (wv : Nat → Int32) (lo : Nat → Int32) (cf : Nat → Nat) (tf : Nat → Nat) (T : Nat → Nat → Int32) (mt : Nat → Nat) (im : Nat → Int32) (j c0 : Nat) (hn4 : n ≤ 400) (hj : j < n) (hc : cf j = c0 + 1) (hc6 : c0 < 6) (ham : 0 < am) : Met l yX0_drop wsX0_drop ({ frames := 1, cells := 0, slots := 0, locals := 21 }) (va_Pc [.ref (a 0), .int (nI j)] (WP dC dI (GT cI cZ cA) (XW cI cZ cA a n am rf mk wv lo cf tf T mt im) sz)) (va_Qi (fun r (_ : Unit) => r = 1) (fun (_ : Unit) => WQ dC dI (GT cI cZ cA) (va_A (XW cI cZ cA a n am rf mk wv lo cf tf T mt im) sz) (XW cI cZ cA a n (am - 1) 0 mk wv lo (va_up cf j c0) tf T mt im)) (va_A (XW cI cZ cA a n am rf mk wv lo cf tf T mt im) sz)) 0 0 (va_A (XW cI cZ cA a n am rf mk wv lo cf tf T mt im) sz) := by
  refine Met.ofW (cc := cX0_drop) (maxL := 2) (ret := (some .boolean)) (by decide) rfl ?_
  intro p e s m args below meth c s₁ B hml hv
  obtain ⟨rfl, hsz, hP, hK, hD0⟩ := hv
  have hx := B.exec
  have hb := B.bytes
  have hr := B.returns
  have hts := atoms_spec (ws := wsX0_drop) B.pre
  have hown : s.vm.findClass RX0 = some m.cls := findClass_of_methodNamed B.named
  have hlocks := B.notSynchronized
  have hf_17 := hts (.fieldLink RX0 17 "GraphSearch" "moveCounts" "[I") (by decide +kernel)
  have hf_27 := hts (.fieldLink RX0 27 "GraphSearch" "allMoves" "I") (by decide +kernel)
  have hiw : ∀ w ∈ wsX00, w ∈ wsX0_drop := by decide +kernel
  subst hsz
  have hD := hD0.self (sz := s.heap.size)
  generalize hAe : va_A (XW cI cZ cA a n am rf mk wv lo cf tf T mt im) s.heap.size = A at hD ⊢
  have hA : ∀ q : Nat, s.heap.size ≤ q → A q := fun q h => by rw [← hAe]; exact Or.inr h
  have hS : va_S A s.heap s.heap [] := va_S.rf
  have hP : va_P (dC, dI) vwCl (XW cI cZ cA a n am rf mk wv lo cf tf T mt im) s.heap := hP
  have hl := lv_entry ([.ref (a 0), .int (nI j)]) (n := 2) (Nat.le_of_ble_eq_true rfl)
  rw [lg_entry_eq]
  generalize (lg_sl ([.ref (a 0), .int (nI j)]) ++ List.replicate (2 - (lg_sl ([.ref (a 0), .int (nI j)])).length) Slot.unset).toArray = ls at hl ⊢
  have hl : lv_has ls 2 [(0, .ref (a 0)), (1, .int (nI j))] := hl
  refine lv_aload_n hx hb dX0_drop_0 rfl (lv_at hl 0 rfl) ?_
  refine lv_iload_n hx hb dX0_drop_1 rfl (lv_at hl 1 rfl) ?_
  refine W.callR (r := isn (nI j) n) (W.runV (As := [.int (nI j)]) (rest := []) ⟨hx, hb, hml, hown, hts⟩ (kX0_isNode l dC dI cI cZ cA a n am rf mk wv lo cf tf T mt im (nI j)) (cwV 1 hts gX0_drop_X0_isNode rfl rfl rfl (by decide +kernel) ⟨Nat.le_of_ble_eq_true rfl, Nat.le_of_ble_eq_true rfl⟩) ⟨blindR, va_recv hK hP (ci := 0) (q0 := 0) rfl rfl, preR hP hK⟩ rfl rfl hl.1 rfl (lv_room (Nat.le_of_ble_eq_true rfl)) dX0_drop_2 ⟨Nat.zero_le _, Nat.zero_le _⟩) ?_
  refine W.eq (g2 := F0 m 5 ls [.int (isn (nI j) n)]) rfl ?_
  refine lv_if_eq (tgt := 17) hx hb dX0_drop_5 (by decide) (fun h5 => absurd h5 (by rw [isn_1 hj (by omega)]; decide)) (fun h5 => ?_)
  refine lv_aload_n hx hb dX0_drop_8 rfl (lv_at hl 0 rfl) ?_
  refine va_get (D := (dC, dI)) (ci := 0) (v := .ref (a 3)) (C := RX0) (T := TX0) (N := 11) hx hb hts hiw hown hK hP 0 rfl rfl 2 (by decide) hf_17 (fun _ h9 => h9) rfl dX0_drop_9 ?_
  refine lv_iload_n hx hb dX0_drop_12 rfl (lv_at hl 1 rfl) ?_
  refine ga_iald hx hb hK hP 3 0 rfl rfl j (v := nI (cf j)) rfl (by omega) (by decide) dX0_drop_13 ?_
  refine lv_if_ne (tgt := 19) hx hb dX0_drop_14 (by decide) (fun h14 => ?_) (fun h14 => absurd h14 (by rw [hc]; exact nI_ne0 (by omega) (by omega)))
  refine lv_aload_n hx hb dX0_drop_19 rfl (lv_at hl 0 rfl) ?_
  refine va_get (D := (dC, dI)) (ci := 0) (v := .ref (a 3)) (C := RX0) (T := TX0) (N := 11) hx hb hts hiw hown hK hP 0 rfl rfl 2 (by decide) hf_17 (fun _ h9 => h9) rfl dX0_drop_20 ?_
  refine lv_iload_n hx hb dX0_drop_23 rfl (lv_at hl 1 rfl) ?_
  refine lv_dup2_11 hx hb dX0_drop_24 rfl rfl ?_
  refine ga_iald hx hb hK hP 3 0 rfl rfl j (v := nI (cf j)) rfl (by omega) (by decide) dX0_drop_25 ?_
  refine lv_iconst (v := 1) hx hb dX0_drop_26 (by decide) ?_
  refine lv_isub hx hb dX0_drop_27 ?_
  refine ga_is (y := nI c0) (by rw [hc]; exact nI_pred c0) ?_
  refine ga_iast hx hb hK hP hD hS 3 0 rfl rfl j (by omega) (by decide) (upd_nI _ _ c0) (ws' := XW cI cZ cA a n am rf mk wv lo (va_up cf j c0) tf T mt im) rfl dX0_drop_28 (fun H locs hP hD hS => ?_)
  refine lv_aload_n hx hb dX0_drop_29 rfl (lv_at hl 0 rfl) ?_
  refine lv_dup hx hb dX0_drop_30 rfl ?_
  refine va_get (D := (dC, dI)) (ci := 0) (v := .int (nI am)) (C := RX0) (T := TX0) (N := 11) hx hb hts hiw hown hK hP 0 rfl rfl 5 (by decide) hf_27 (fun _ h9 => h9) rfl dX0_drop_31 ?_
  refine lv_iconst (v := 1) hx hb dX0_drop_34 (by decide) ?_
  refine lv_isub hx hb dX0_drop_35 ?_
  refine ga_is (y := nI (am - 1)) (by rw [show (1 : Int32) = nI 1 from rfl, pk_sub (by omega)]) ?_
  refine va_put (D := (dC, dI)) (ci := 0) (v := .int (nI (am - 1))) (ty := .int) (C := RX0) (T := TX0) (N := 11) hx hb hts hiw tyX0 tyX0_ok nmX0 hown hK hP hD hS 0 rfl rfl 5 (by decide) hf_27 (fun _ h9 => h9) rfl (by decide +kernel) rfl rfl (Nat.le_of_ble_eq_true rfl) dX0_drop_36 (fun H locs hP hD hS => ?_)
  have hP : va_P (dC, dI) vwCl (XW cI cZ cA a n (am - 1) rf mk wv lo (va_up cf j c0) tf T mt im) H := hP
  have hD : va_D A (XW cI cZ cA a n (am - 1) rf mk wv lo (va_up cf j c0) tf T mt im) := hD
  refine lv_aload_n hx hb dX0_drop_39 rfl (lv_at hl 0 rfl) ?_
  have hF := freeAll hD hS hA
  refine va_callv (va_runV (As := []) (rest := []) ⟨hx, hb, hml, hown, hts⟩ (kX0_forgetTable l dC dI cI cZ cA a H.size n (am - 1) rf mk wv lo (va_up cf j c0) tf T mt im) (cwV 0 hts gX0_drop_X0_forgetTable rfl rfl rfl (by decide +kernel) ⟨Nat.le_of_ble_eq_true rfl, Nat.le_of_ble_eq_true rfl⟩) ⟨blindW, va_recv hK hP (ci := 0) (q0 := 0) rfl rfl, preW hP hK hD⟩ rfl rfl hl.1 rfl (lv_room (Nat.le_of_ble_eq_true rfl)) dX0_drop_40 ⟨Nat.zero_le _, Nat.zero_le _⟩) hS (fun q _ h => hF q h) hF (fun _u tS H1 locs htS hvm hw hB hz1 hk1 hS => ?_)
  obtain ⟨hP1, hK1, hD1⟩ := hB
  rw [htS] at hP1
  have hP : va_P (dC, dI) vwCl (XW cI cZ cA a n (am - 1) 0 mk wv lo (va_up cf j c0) tf T mt im) H1 := hP1
  have hD : va_D A (XW cI cZ cA a n (am - 1) 0 mk wv lo (va_up cf j c0) tf T mt im) := hD1.weaken (fun _ _ _ h => hF _ h)
  generalize H1 = H at hP hS ⊢
  refine W.eq (g2 := F0 m 43 ls []) rfl ?_
  refine lv_iconst (v := 1) hx hb dX0_drop_43 (by decide) ?_
  exact W.zret (v := 1) hx hb hr (by decide) (fun t ht hW => ⟨⟨1, (), rfl, rfl, by rw [ht]; exact hP, va_K.moved hW.alike hK, hD⟩, hS.F ht⟩) hS.2.2 dX0_drop_44
set_option maxHeartbeats 4000000 in
set_option maxRecDepth 100000 in
/-- change, no such node -/
theorem kX0_change_n (l : Launch) (dC : Nat → ClassId) (dI : Nat → Nat → Nat) (cI cZ cA : ClassId) (a : Nat → Nat) (n : Nat) (am : Nat) (rf : Nat) (mk : Nat) (wv : Nat → Int32) (lo : Nat → Int32) (cf : Nat → Nat) (tf : Nat → Nat) (T : Nat → Nat → Int32) (mt : Nat → Nat) (im : Nat → Int32) (x v b : Int32) (hn4 : n ≤ 400) (hno : isn x n = 0) : Met l yX0_change wsX0_change ({ frames := 1, cells := 0, slots := 0, locals := 21 }) (va_Pc [.ref (a 0), .int x, .int v, .int b] (RP dC dI (GT cI cZ cA) (XW cI cZ cA a n am rf mk wv lo cf tf T mt im))) (QcRead 0) 0 0 (fun _ => False) := by
  refine Met.ofW (cc := cX0_change) (maxL := 4) (ret := (some .boolean)) (by decide) rfl ?_
  intro p e s m args below meth c s₁ B hml hv
  obtain ⟨rfl, hP, hK⟩ := hv
  have hx := B.exec
  have hb := B.bytes
  have hr := B.returns
  have hts := atoms_spec (ws := wsX0_change) B.pre
  have hown : s.vm.findClass RX0 = some m.cls := findClass_of_methodNamed B.named
  have hlocks := B.notSynchronized
  have hf_9 := hts (.fieldLink RX0 9 "GraphSearch" "worths" "[I") (by decide +kernel)
  have hf_13 := hts (.fieldLink RX0 13 "GraphSearch" "losts" "[Z") (by decide +kernel)
  have hiw : ∀ w ∈ wsX00, w ∈ wsX0_change := by decide +kernel
  have hl := lv_entry ([.ref (a 0), .int x, .int v, .int b]) (n := 4) (Nat.le_of_ble_eq_true rfl)
  rw [lg_entry_eq]
  generalize (lg_sl ([.ref (a 0), .int x, .int v, .int b]) ++ List.replicate (4 - (lg_sl ([.ref (a 0), .int x, .int v, .int b])).length) Slot.unset).toArray = ls at hl ⊢
  have hl : lv_has ls 4 [(0, .ref (a 0)), (1, .int x), (2, .int v), (3, .int b)] := hl
  refine lv_aload_n hx hb dX0_change_0 rfl (lv_at hl 0 rfl) ?_
  refine lv_iload_n hx hb dX0_change_1 rfl (lv_at hl 1 rfl) ?_
  refine W.callR (r := isn x n) (W.runV (As := [.int x]) (rest := []) ⟨hx, hb, hml, hown, hts⟩ (kX0_isNode l dC dI cI cZ cA a n am rf mk wv lo cf tf T mt im x) (cwV 1 hts gX0_change_X0_isNode rfl rfl rfl (by decide +kernel) ⟨Nat.le_of_ble_eq_true rfl, Nat.le_of_ble_eq_true rfl⟩) ⟨blindR, va_recv hK hP (ci := 0) (q0 := 0) rfl rfl, preR hP hK⟩ rfl rfl hl.1 rfl (lv_room (Nat.le_of_ble_eq_true rfl)) dX0_change_2 ⟨Nat.zero_le _, Nat.zero_le _⟩) ?_
  refine W.eq (g2 := F0 m 5 ls [.int (isn x n)]) rfl ?_
  refine lv_if_eq (tgt := 15) hx hb dX0_change_5 (by decide) (fun h5 => ?_) (fun h5 => absurd hno h5)
  refine lv_iconst (v := 0) hx hb dX0_change_15 (by decide) ?_
  exact W.zret (v := 0) hx hb hr (by decide) (fun t ht hW => ⟨rfl, ht⟩) (fun _ h => nomatch h) dX0_change_16
set_option maxHeartbeats 4000000 in
set_option maxRecDepth 100000 in
/-- change, a wrong worth -/
theorem kX0_change_w (l : Launch) (dC : Nat → ClassId) (dI : Nat → Nat → Nat) (cI cZ cA : ClassId) (a : Nat → Nat) (n : Nat) (am : Nat) (rf : Nat) (mk : Nat) (wv : Nat → Int32) (lo : Nat → Int32) (cf : Nat → Nat) (tf : Nat → Nat) (T : Nat → Nat → Int32) (mt : Nat → Nat) (im : Nat → Int32) (j : Nat) (v b : Int32) (hn4 : n ≤ 400) (hj : j < n) (hno : iw v = 0) : Met l yX0_change wsX0_change ({ frames := 1, cells := 0, slots := 0, locals := 21 }) (va_Pc [.ref (a 0), .int (nI j), .int v, .int b] (RP dC dI (GT cI cZ cA) (XW cI cZ cA a n am rf mk wv lo cf tf T mt im))) (QcRead 0) 0 0 (fun _ => False) := by
  refine Met.ofW (cc := cX0_change) (maxL := 4) (ret := (some .boolean)) (by decide) rfl ?_
  intro p e s m args below meth c s₁ B hml hv
  obtain ⟨rfl, hP, hK⟩ := hv
  have hx := B.exec
  have hb := B.bytes
  have hr := B.returns
  have hts := atoms_spec (ws := wsX0_change) B.pre
  have hown : s.vm.findClass RX0 = some m.cls := findClass_of_methodNamed B.named
  have hlocks := B.notSynchronized
  have hf_9 := hts (.fieldLink RX0 9 "GraphSearch" "worths" "[I") (by decide +kernel)
  have hf_13 := hts (.fieldLink RX0 13 "GraphSearch" "losts" "[Z") (by decide +kernel)
  have hiw : ∀ w ∈ wsX00, w ∈ wsX0_change := by decide +kernel
  have hl := lv_entry ([.ref (a 0), .int (nI j), .int v, .int b]) (n := 4) (Nat.le_of_ble_eq_true rfl)
  rw [lg_entry_eq]
  generalize (lg_sl ([.ref (a 0), .int (nI j), .int v, .int b]) ++ List.replicate (4 - (lg_sl ([.ref (a 0), .int (nI j), .int v, .int b])).length) Slot.unset).toArray = ls at hl ⊢
  have hl : lv_has ls 4 [(0, .ref (a 0)), (1, .int (nI j)), (2, .int v), (3, .int b)] := hl
  refine lv_aload_n hx hb dX0_change_0 rfl (lv_at hl 0 rfl) ?_
  refine lv_iload_n hx hb dX0_change_1 rfl (lv_at hl 1 rfl) ?_
  refine W.callR (r := isn (nI j) n) (W.runV (As := [.int (nI j)]) (rest := []) ⟨hx, hb, hml, hown, hts⟩ (kX0_isNode l dC dI cI cZ cA a n am rf mk wv lo cf tf T mt im (nI j)) (cwV 1 hts gX0_change_X0_isNode rfl rfl rfl (by decide +kernel) ⟨Nat.le_of_ble_eq_true rfl, Nat.le_of_ble_eq_true rfl⟩) ⟨blindR, va_recv hK hP (ci := 0) (q0 := 0) rfl rfl, preR hP hK⟩ rfl rfl hl.1 rfl (lv_room (Nat.le_of_ble_eq_true rfl)) dX0_change_2 ⟨Nat.zero_le _, Nat.zero_le _⟩) ?_
  refine W.eq (g2 := F0 m 5 ls [.int (isn (nI j) n)]) rfl ?_
  refine lv_if_eq (tgt := 15) hx hb dX0_change_5 (by decide) (fun h5 => absurd h5 (by rw [isn_1 hj (by omega)]; decide)) (fun h5 => ?_)
  refine lv_iload_n hx hb dX0_change_8 rfl (lv_at hl 2 rfl) ?_
  refine W.callR (r := iw v) (W.runS (As := [.int v]) (rest := []) ⟨hx, hb, hml, hown, hts⟩ (kX0_isWorth l v) (va_cwS 1 hts gX0_change_X0_isWorth rfl rfl rfl (by decide +kernel) ⟨Nat.le_of_ble_eq_true rfl, Nat.le_of_ble_eq_true rfl⟩) ⟨blindT, fun _ _ _ => ⟨rfl, trivial⟩⟩ rfl rfl hl.1 rfl (lv_room (Nat.le_of_ble_eq_true rfl)) dX0_change_9 ⟨Nat.zero_le _, Nat.zero_le _⟩) ?_
  refine W.eq (g2 := F0 m 12 ls [.int (iw v)]) rfl ?_
  refine lv_if_ne (tgt := 17) hx hb dX0_change_12 (by decide) (fun h12 => absurd hno h12) (fun h12 => ?_)
  refine lv_iconst (v := 0) hx hb dX0_change_15 (by decide) ?_
  exact W.zret (v := 0) hx hb hr (by decide) (fun t ht hW => ⟨rfl, ht⟩) (fun _ h => nomatch h) dX0_change_16
set_option maxHeartbeats 4000000 in
set_option maxRecDepth 100000 in
/-- change -/
theorem kX0_change (l : Launch) (dC : Nat → ClassId) (dI : Nat → Nat → Nat) (cI cZ cA : ClassId) (a : Nat → Nat) (sz : Nat) (n : Nat) (am : Nat) (rf : Nat) (mk : Nat) (wv : Nat → Int32) (lo : Nat → Int32) (cf : Nat → Nat) (tf : Nat → Nat) (T : Nat → Nat → Int32) (mt : Nat → Nat) (im : Nat → Int32) (j : Nat) (v b : Int32) (hn4 : n ≤ 400) (hj : j < n) (hv : iw v = 1) (hz : b = 0 ∨ b = 1) : Met l yX0_change wsX0_change ({ frames := 1, cells := 0, slots := 0, locals := 21 }) (va_Pc [.ref (a 0), .int (nI j), .int v, .int b] (WP dC dI (GT cI cZ cA) (XW cI cZ cA a n am rf mk wv lo cf tf T mt im) sz)) (va_Qi (fun r (_ : Unit) => r = 1) (fun (_ : Unit) => WQ dC dI (GT cI cZ cA) (va_A (XW cI cZ cA a n am rf mk wv lo cf tf T mt im) sz) (XW cI cZ cA a n am 0 mk (upd wv j v) (upd lo j b) cf tf T mt im)) (va_A (XW cI cZ cA a n am rf mk wv lo cf tf T mt im) sz)) 0 0 (va_A (XW cI cZ cA a n am rf mk wv lo cf tf T mt im) sz) := by
  refine Met.ofW (cc := cX0_change) (maxL := 4) (ret := (some .boolean)) (by decide) rfl ?_
  intro p e s m args below meth c s₁ B hml hv
  obtain ⟨rfl, hsz, hP, hK, hD0⟩ := hv
  have hx := B.exec
  have hb := B.bytes
  have hr := B.returns
  have hts := atoms_spec (ws := wsX0_change) B.pre
  have hown : s.vm.findClass RX0 = some m.cls := findClass_of_methodNamed B.named
  have hlocks := B.notSynchronized
  have hf_9 := hts (.fieldLink RX0 9 "GraphSearch" "worths" "[I") (by decide +kernel)
  have hf_13 := hts (.fieldLink RX0 13 "GraphSearch" "losts" "[Z") (by decide +kernel)
  have hiw : ∀ w ∈ wsX00, w ∈ wsX0_change := by decide +kernel
  subst hsz
  have hD := hD0.self (sz := s.heap.size)
  generalize hAe : va_A (XW cI cZ cA a n am rf mk wv lo cf tf T mt im) s.heap.size = A at hD ⊢
  have hA : ∀ q : Nat, s.heap.size ≤ q → A q := fun q h => by rw [← hAe]; exact Or.inr h
  have hS : va_S A s.heap s.heap [] := va_S.rf
  have hP : va_P (dC, dI) vwCl (XW cI cZ cA a n am rf mk wv lo cf tf T mt im) s.heap := hP
  have hl := lv_entry ([.ref (a 0), .int (nI j), .int v, .int b]) (n := 4) (Nat.le_of_ble_eq_true rfl)
  rw [lg_entry_eq]
  generalize (lg_sl ([.ref (a 0), .int (nI j), .int v, .int b]) ++ List.replicate (4 - (lg_sl ([.ref (a 0), .int (nI j), .int v, .int b])).length) Slot.unset).toArray = ls at hl ⊢
  have hl : lv_has ls 4 [(0, .ref (a 0)), (1, .int (nI j)), (2, .int v), (3, .int b)] := hl
  refine lv_aload_n hx hb dX0_change_0 rfl (lv_at hl 0 rfl) ?_
  refine lv_iload_n hx hb dX0_change_1 rfl (lv_at hl 1 rfl) ?_
  refine W.callR (r := isn (nI j) n) (W.runV (As := [.int (nI j)]) (rest := []) ⟨hx, hb, hml, hown, hts⟩ (kX0_isNode l dC dI cI cZ cA a n am rf mk wv lo cf tf T mt im (nI j)) (cwV 1 hts gX0_change_X0_isNode rfl rfl rfl (by decide +kernel) ⟨Nat.le_of_ble_eq_true rfl, Nat.le_of_ble_eq_true rfl⟩) ⟨blindR, va_recv hK hP (ci := 0) (q0 := 0) rfl rfl, preR hP hK⟩ rfl rfl hl.1 rfl (lv_room (Nat.le_of_ble_eq_true rfl)) dX0_change_2 ⟨Nat.zero_le _, Nat.zero_le _⟩) ?_
  refine W.eq (g2 := F0 m 5 ls [.int (isn (nI j) n)]) rfl ?_
  refine lv_if_eq (tgt := 15) hx hb dX0_change_5 (by decide) (fun h5 => absurd h5 (by rw [isn_1 hj (by omega)]; decide)) (fun h5 => ?_)
  refine lv_iload_n hx hb dX0_change_8 rfl (lv_at hl 2 rfl) ?_
  refine W.callR (r := iw v) (W.runS (As := [.int v]) (rest := []) ⟨hx, hb, hml, hown, hts⟩ (kX0_isWorth l v) (va_cwS 1 hts gX0_change_X0_isWorth rfl rfl rfl (by decide +kernel) ⟨Nat.le_of_ble_eq_true rfl, Nat.le_of_ble_eq_true rfl⟩) ⟨blindT, fun _ _ _ => ⟨rfl, trivial⟩⟩ rfl rfl hl.1 rfl (lv_room (Nat.le_of_ble_eq_true rfl)) dX0_change_9 ⟨Nat.zero_le _, Nat.zero_le _⟩) ?_
  refine W.eq (g2 := F0 m 12 ls [.int (iw v)]) rfl ?_
  refine lv_if_ne (tgt := 17) hx hb dX0_change_12 (by decide) (fun h12 => ?_) (fun h12 => absurd h12 (by rw [hv]; decide))
  refine lv_aload_n hx hb dX0_change_17 rfl (lv_at hl 0 rfl) ?_
  refine va_get (D := (dC, dI)) (ci := 0) (v := .ref (a 1)) (C := RX0) (T := TX0) (N := 11) hx hb hts hiw hown hK hP 0 rfl rfl 0 (by decide) hf_9 (fun _ h9 => h9) rfl dX0_change_18 ?_
  refine lv_iload_n hx hb dX0_change_21 rfl (lv_at hl 1 rfl) ?_
  refine lv_iload_n hx hb dX0_change_22 rfl (lv_at hl 2 rfl) ?_
  refine ga_iast hx hb hK hP hD hS 1 0 rfl rfl j (by omega) (by decide) rfl (ws' := XW cI cZ cA a n am rf mk (upd wv j v) lo cf tf T mt im) rfl dX0_change_23 (fun H locs hP hD hS => ?_)
  refine lv_aload_n hx hb dX0_change_24 rfl (lv_at hl 0 rfl) ?_
  refine va_get (D := (dC, dI)) (ci := 0) (v := .ref (a 2)) (C := RX0) (T := TX0) (N := 11) hx hb hts hiw hown hK hP 0 rfl rfl 1 (by decide) hf_13 (fun _ h9 => h9) rfl dX0_change_25 ?_
  refine lv_iload_n hx hb dX0_change_28 rfl (lv_at hl 1 rfl) ?_
  refine lv_iload_n hx hb dX0_change_29 rfl (lv_at hl 3 rfl) ?_
  refine ga_zast hx hb hK hP hD hS 2 1 rfl rfl j hz (by omega) (by decide) rfl (ws' := XW cI cZ cA a n am rf mk (upd wv j v) (upd lo j b) cf tf T mt im) rfl dX0_change_30 (fun H locs hP hD hS => ?_)
  refine lv_aload_n hx hb dX0_change_31 rfl (lv_at hl 0 rfl) ?_
  have hF := freeAll hD hS hA
  refine va_callv (va_runV (As := []) (rest := []) ⟨hx, hb, hml, hown, hts⟩ (kX0_forgetTable l dC dI cI cZ cA a H.size n am rf mk (upd wv j v) (upd lo j b) cf tf T mt im) (cwV 0 hts gX0_change_X0_forgetTable rfl rfl rfl (by decide +kernel) ⟨Nat.le_of_ble_eq_true rfl, Nat.le_of_ble_eq_true rfl⟩) ⟨blindW, va_recv hK hP (ci := 0) (q0 := 0) rfl rfl, preW hP hK hD⟩ rfl rfl hl.1 rfl (lv_room (Nat.le_of_ble_eq_true rfl)) dX0_change_32 ⟨Nat.zero_le _, Nat.zero_le _⟩) hS (fun q _ h => hF q h) hF (fun _u tS H1 locs htS hvm hw hB hz1 hk1 hS => ?_)
  obtain ⟨hP1, hK1, hD1⟩ := hB
  rw [htS] at hP1
  have hP : va_P (dC, dI) vwCl (XW cI cZ cA a n am 0 mk (upd wv j v) (upd lo j b) cf tf T mt im) H1 := hP1
  have hD : va_D A (XW cI cZ cA a n am 0 mk (upd wv j v) (upd lo j b) cf tf T mt im) := hD1.weaken (fun _ _ _ h => hF _ h)
  generalize H1 = H at hP hS ⊢
  refine W.eq (g2 := F0 m 35 ls []) rfl ?_
  refine lv_iconst (v := 1) hx hb dX0_change_35 (by decide) ?_
  exact W.zret (v := 1) hx hb hr (by decide) (fun t ht hW => ⟨⟨1, (), rfl, rfl, by rw [ht]; exact hP, va_K.moved hW.alike hK, hD⟩, hS.F ht⟩) hS.2.2 dX0_change_36
set_option maxHeartbeats 4000000 in
set_option maxRecDepth 100000 in
/-- node -/
theorem kX0_node (l : Launch) (dC : Nat → ClassId) (dI : Nat → Nat → Nat) (cI cZ cA : ClassId) (a : Nat → Nat) (sz : Nat) (n : Nat) (am : Nat) (rf : Nat) (mk : Nat) (wv : Nat → Int32) (lo : Nat → Int32) (cf : Nat → Nat) (tf : Nat → Nat) (T : Nat → Nat → Int32) (mt : Nat → Nat) (im : Nat → Int32) (v b : Int32) (hn4 : n < 400) (hv : iw v = 1) (hz : b = 0 ∨ b = 1) : Met l yX0_node wsX0_node ({ frames := 6, cells := 0, slots := 0, locals := 82 }) (va_Pc [.ref (a 0), .int v, .int b] (WP dC dI (GT cI cZ cA) (XW cI cZ cA a n am rf mk wv lo cf tf T mt im) sz)) (va_Qi (fun r (_ : Unit) => r = nI n) (fun (_ : Unit) => WQ dC dI (GT cI cZ cA) (va_A (XW cI cZ cA a n am rf mk wv lo cf tf T mt im) sz) (XW cI cZ cA a (n + 1) am 0 mk (upd wv n v) (upd lo n b) cf tf T mt im)) (va_A (XW cI cZ cA a n am rf mk wv lo cf tf T mt im) sz)) 0 0 (va_A (XW cI cZ cA a n am rf mk wv lo cf tf T mt im) sz) := by
  refine Met.ofW (cc := cX0_node) (maxL := 4) (ret := (some .int)) (by decide) rfl ?_
  intro p e s m args below meth c s₁ B hml hv
  obtain ⟨rfl, hsz, hP, hK, hD0⟩ := hv
  have hx := B.exec
  have hb := B.bytes
  have hr := B.returns
  have hts := atoms_spec (ws := wsX0_node) B.pre
  have hown : s.vm.findClass RX0 = some m.cls := findClass_of_methodNamed B.named
  have hlocks := B.notSynchronized
  have hf_23 := hts (.fieldLink RX0 23 "GraphSearch" "nodeCount" "I") (by decide +kernel)
  have hf_9 := hts (.fieldLink RX0 9 "GraphSearch" "worths" "[I") (by decide +kernel)
  have hf_13 := hts (.fieldLink RX0 13 "GraphSearch" "losts" "[Z") (by decide +kernel)
  have hiw : ∀ w ∈ wsX00, w ∈ wsX0_node := by decide +kernel
  subst hsz
  have hD := hD0.self (sz := s.heap.size)
  generalize hAe : va_A (XW cI cZ cA a n am rf mk wv lo cf tf T mt im) s.heap.size = A at hD ⊢
  have hA : ∀ q : Nat, s.heap.size ≤ q → A q := fun q h => by rw [← hAe]; exact Or.inr h
  have hS : va_S A s.heap s.heap [] := va_S.rf
  have hP : va_P (dC, dI) vwCl (XW cI cZ cA a n am rf mk wv lo cf tf T mt im) s.heap := hP
  have hl := lv_entry ([.ref (a 0), .int v, .int b]) (n := 4) (Nat.le_of_ble_eq_true rfl)
  rw [lg_entry_eq]
  generalize (lg_sl ([.ref (a 0), .int v, .int b]) ++ List.replicate (4 - (lg_sl ([.ref (a 0), .int v, .int b])).length) Slot.unset).toArray = ls at hl ⊢
  have hl : lv_has ls 4 [(0, .ref (a 0)), (1, .int v), (2, .int b)] := hl
  refine lv_iload_n hx hb dX0_node_0 rfl (lv_at hl 1 rfl) ?_
  refine W.callR (r := iw v) (W.runS (As := [.int v]) (rest := []) ⟨hx, hb, hml, hown, hts⟩ (kX0_isWorth l v) (va_cwS 1 hts gX0_node_X0_isWorth rfl rfl rfl (by decide +kernel) ⟨Nat.le_of_ble_eq_true rfl, Nat.le_of_ble_eq_true rfl⟩) ⟨blindT, fun _ _ _ => ⟨rfl, trivial⟩⟩ rfl rfl hl.1 rfl (lv_room (Nat.le_of_ble_eq_true rfl)) dX0_node_1 ⟨Nat.zero_le _, Nat.zero_le _⟩) ?_
  refine W.eq (g2 := F0 m 4 ls [.int (iw v)]) rfl ?_
  refine lv_if_ne (tgt := 17) hx hb dX0_node_4 (by decide) (fun h4 => ?_) (fun h4 => absurd h4 (by rw [hv]; decide))
  refine lv_aload_n hx hb dX0_node_17 rfl (lv_at hl 0 rfl) ?_
  refine va_get (D := (dC, dI)) (ci := 0) (v := .int (nI n)) (C := RX0) (T := TX0) (N := 11) hx hb hts hiw hown hK hP 0 rfl rfl 4 (by decide) hf_23 (fun _ h9 => h9) rfl dX0_node_18 ?_
  refine lv_sipush (v := 400) hx hb dX0_node_21 (by decide) ?_
  refine lv_icmp_lt (tgt := 37) hx hb dX0_node_24 (by decide) (fun h24 => ?_) (fun h24 => absurd (show nI n < 400 from nI_lt hn4 (by decide)) h24)
  refine lv_aload_n hx hb dX0_node_37 rfl (lv_at hl 0 rfl) ?_
  refine va_get (D := (dC, dI)) (ci := 0) (v := .int (nI n)) (C := RX0) (T := TX0) (N := 11) hx hb hts hiw hown hK hP 0 rfl rfl 4 (by decide) hf_23 (fun _ h9 => h9) rfl dX0_node_38 ?_
  refine lv_istore_n (lv' := [(3, .int (nI n)), (0, .ref (a 0)), (1, .int v), (2, .int b)]) hx hb dX0_node_41 rfl hl (by decide) rfl (fun ls hl => ?_)
  refine lv_aload_n hx hb dX0_node_42 rfl (lv_at hl 1 rfl) ?_
  refine va_get (D := (dC, dI)) (ci := 0) (v := .ref (a 1)) (C := RX0) (T := TX0) (N := 11) hx hb hts hiw hown hK hP 0 rfl rfl 0 (by decide) hf_9 (fun _ h9 => h9) rfl dX0_node_43 ?_
  refine lv_iload_n hx hb dX0_node_46 rfl (lv_at hl 0 rfl) ?_
  refine lv_iload_n hx hb dX0_node_47 rfl (lv_at hl 2 rfl) ?_
  refine ga_iast hx hb hK hP hD hS 1 0 rfl rfl n (by omega) (by decide) rfl (ws' := XW cI cZ cA a n am rf mk (upd wv n v) lo cf tf T mt im) rfl dX0_node_48 (fun H locs hP hD hS => ?_)
  refine lv_aload_n hx hb dX0_node_49 rfl (lv_at hl 1 rfl) ?_
  refine va_get (D := (dC, dI)) (ci := 0) (v := .ref (a 2)) (C := RX0) (T := TX0) (N := 11) hx hb hts hiw hown hK hP 0 rfl rfl 1 (by decide) hf_13 (fun _ h9 => h9) rfl dX0_node_50 ?_
  refine lv_iload_n hx hb dX0_node_53 rfl (lv_at hl 0 rfl) ?_
  refine lv_iload_n hx hb dX0_node_54 rfl (lv_at hl 3 rfl) ?_
  refine ga_zast hx hb hK hP hD hS 2 1 rfl rfl n hz (by omega) (by decide) rfl (ws' := XW cI cZ cA a n am rf mk (upd wv n v) (upd lo n b) cf tf T mt im) rfl dX0_node_55 (fun H locs hP hD hS => ?_)
  refine lv_aload_n hx hb dX0_node_56 rfl (lv_at hl 1 rfl) ?_
  refine lv_dup hx hb dX0_node_57 rfl ?_
  refine va_get (D := (dC, dI)) (ci := 0) (v := .int (nI n)) (C := RX0) (T := TX0) (N := 11) hx hb hts hiw hown hK hP 0 rfl rfl 4 (by decide) hf_23 (fun _ h9 => h9) rfl dX0_node_58 ?_
  refine lv_iconst (v := 1) hx hb dX0_node_61 (by decide) ?_
  refine lv_iadd hx hb dX0_node_62 ?_
  refine ga_is (y := nI (n + 1)) (nI_1 n) ?_
  refine va_put (D := (dC, dI)) (ci := 0) (v := .int (nI (n + 1))) (ty := .int) (C := RX0) (T := TX0) (N := 11) hx hb hts hiw tyX0 tyX0_ok nmX0 hown hK hP hD hS 0 rfl rfl 4 (by decide) hf_23 (fun _ h9 => h9) rfl (by decide +kernel) rfl rfl (Nat.le_of_ble_eq_true rfl) dX0_node_63 (fun H locs hP hD hS => ?_)
  have hP : va_P (dC, dI) vwCl (XW cI cZ cA a (n + 1) am rf mk (upd wv n v) (upd lo n b) cf tf T mt im) H := hP
  have hD : va_D A (XW cI cZ cA a (n + 1) am rf mk (upd wv n v) (upd lo n b) cf tf T mt im) := hD
  refine lv_aload_n hx hb dX0_node_66 rfl (lv_at hl 1 rfl) ?_
  have hF := freeAll hD hS hA
  refine va_callv (va_runV (As := []) (rest := []) ⟨hx, hb, hml, hown, hts⟩ (kX0_forgetTable l dC dI cI cZ cA a H.size (n + 1) am rf mk (upd wv n v) (upd lo n b) cf tf T mt im) (cwV 0 hts gX0_node_X0_forgetTable rfl rfl rfl (by decide +kernel) ⟨Nat.le_of_ble_eq_true rfl, Nat.le_of_ble_eq_true rfl⟩) ⟨blindW, va_recv hK hP (ci := 0) (q0 := 0) rfl rfl, preW hP hK hD⟩ rfl rfl hl.1 rfl (lv_room (Nat.le_of_ble_eq_true rfl)) dX0_node_67 ⟨Nat.zero_le _, Nat.zero_le _⟩) hS (fun q _ h => hF q h) hF (fun _u tS H1 locs htS hvm hw hB hz1 hk1 hS => ?_)
  obtain ⟨hP1, hK1, hD1⟩ := hB
  rw [htS] at hP1
  have hP : va_P (dC, dI) vwCl (XW cI cZ cA a (n + 1) am 0 mk (upd wv n v) (upd lo n b) cf tf T mt im) H1 := hP1
  have hD : va_D A (XW cI cZ cA a (n + 1) am 0 mk (upd wv n v) (upd lo n b) cf tf T mt im) := hD1.weaken (fun _ _ _ h => hF _ h)
  generalize H1 = H at hP hS ⊢
  refine W.eq (g2 := F0 m 70 ls []) rfl ?_
  refine lv_iload_n hx hb dX0_node_70 rfl (lv_at hl 0 rfl) ?_
  exact W.iret (v := (nI n)) hx hb hr (fun t ht hW => ⟨⟨(nI n), (), rfl, rfl, by rw [ht]; exact hP, va_K.moved hW.alike hK, hD⟩, hS.F ht⟩) hS.2.2 dX0_node_71
set_option maxHeartbeats 4000000 in
set_option maxRecDepth 100000 in
/-- move -/
theorem kX0_move (l : Launch) (dC : Nat → ClassId) (dI : Nat → Nat → Nat) (cI cZ cA : ClassId) (a : Nat → Nat) (sz : Nat) (n : Nat) (am : Nat) (rf : Nat) (mk : Nat) (wv : Nat → Int32) (lo : Nat → Int32) (cf : Nat → Nat) (tf : Nat → Nat) (T : Nat → Nat → Int32) (mt : Nat → Nat) (im : Nat → Int32) (i j : Nat) (hn4 : n ≤ 400) (hi : i < n) (hj : j < n) (hc : cf i < 6) : Met l yX0_move wsX0_move ({ frames := 6, cells := 0, slots := 0, locals := 82 }) (va_Pc [.ref (a 0), .int (nI i), .int (nI j)] (WP dC dI (GT cI cZ cA) (XW cI cZ cA a n am rf mk wv lo cf tf T mt im) sz)) (va_Qi (fun r (_ : Unit) => r = nI (cf i)) (fun (_ : Unit) => WQ dC dI (GT cI cZ cA) (va_A (XW cI cZ cA a n am rf mk wv lo cf tf T mt im) sz) (XW cI cZ cA a n (am + 1) 0 mk wv lo (va_up cf i (cf i + 1)) (va_up tf (i * 6 + cf i) j) T mt im)) (va_A (XW cI cZ cA a n am rf mk wv lo cf tf T mt im) sz)) 0 0 (va_A (XW cI cZ cA a n am rf mk wv lo cf tf T mt im) sz) := by
  refine Met.ofW (cc := cX0_move) (maxL := 4) (ret := (some .int)) (by decide) rfl ?_
  intro p e s m args below meth c s₁ B hml hv
  obtain ⟨rfl, hsz, hP, hK, hD0⟩ := hv
  have hx := B.exec
  have hb := B.bytes
  have hr := B.returns
  have hts := atoms_spec (ws := wsX0_move) B.pre
  have hown : s.vm.findClass RX0 = some m.cls := findClass_of_methodNamed B.named
  have hlocks := B.notSynchronized
  have hf_17 := hts (.fieldLink RX0 17 "GraphSearch" "moveCounts" "[I") (by decide +kernel)
  have hf_20 := hts (.fieldLink RX0 20 "GraphSearch" "targets" "[I") (by decide +kernel)
  have hf_27 := hts (.fieldLink RX0 27 "GraphSearch" "allMoves" "I") (by decide +kernel)
  have hiw : ∀ w ∈ wsX00, w ∈ wsX0_move := by decide +kernel
  subst hsz
  have hD := hD0.self (sz := s.heap.size)
  generalize hAe : va_A (XW cI cZ cA a n am rf mk wv lo cf tf T mt im) s.heap.size = A at hD ⊢
  have hA : ∀ q : Nat, s.heap.size ≤ q → A q := fun q h => by rw [← hAe]; exact Or.inr h
  have hS : va_S A s.heap s.heap [] := va_S.rf
  have hP : va_P (dC, dI) vwCl (XW cI cZ cA a n am rf mk wv lo cf tf T mt im) s.heap := hP
  have hl := lv_entry ([.ref (a 0), .int (nI i), .int (nI j)]) (n := 4) (Nat.le_of_ble_eq_true rfl)
  rw [lg_entry_eq]
  generalize (lg_sl ([.ref (a 0), .int (nI i), .int (nI j)]) ++ List.replicate (4 - (lg_sl ([.ref (a 0), .int (nI i), .int (nI j)])).length) Slot.unset).toArray = ls at hl ⊢
  have hl : lv_has ls 4 [(0, .ref (a 0)), (1, .int (nI i)), (2, .int (nI j))] := hl
  refine lv_aload_n hx hb dX0_move_0 rfl (lv_at hl 0 rfl) ?_
  refine lv_iload_n hx hb dX0_move_1 rfl (lv_at hl 1 rfl) ?_
  refine W.callR (r := isn (nI i) n) (W.runV (As := [.int (nI i)]) (rest := []) ⟨hx, hb, hml, hown, hts⟩ (kX0_isNode l dC dI cI cZ cA a n am rf mk wv lo cf tf T mt im (nI i)) (cwV 1 hts gX0_move_X0_isNode rfl rfl rfl (by decide +kernel) ⟨Nat.le_of_ble_eq_true rfl, Nat.le_of_ble_eq_true rfl⟩) ⟨blindR, va_recv hK hP (ci := 0) (q0 := 0) rfl rfl, preR hP hK⟩ rfl rfl hl.1 rfl (lv_room (Nat.le_of_ble_eq_true rfl)) dX0_move_2 ⟨Nat.zero_le _, Nat.zero_le _⟩) ?_
  refine W.eq (g2 := F0 m 5 ls [.int (isn (nI i) n)]) rfl ?_
  refine lv_if_eq (tgt := 16) hx hb dX0_move_5 (by decide) (fun h5 => absurd h5 (by rw [isn_1 hi (by omega)]; decide)) (fun h5 => ?_)
  refine lv_aload_n hx hb dX0_move_8 rfl (lv_at hl 0 rfl) ?_
  refine lv_iload_n hx hb dX0_move_9 rfl (lv_at hl 2 rfl) ?_
  refine W.callR (r := isn (nI j) n) (W.runV (As := [.int (nI j)]) (rest := []) ⟨hx, hb, hml, hown, hts⟩ (kX0_isNode l dC dI cI cZ cA a n am rf mk wv lo cf tf T mt im (nI j)) (cwV 1 hts gX0_move_X0_isNode rfl rfl rfl (by decide +kernel) ⟨Nat.le_of_ble_eq_true rfl, Nat.le_of_ble_eq_true rfl⟩) ⟨blindR, va_recv hK hP (ci := 0) (q0 := 0) rfl rfl, preR hP hK⟩ rfl rfl hl.1 rfl (lv_room (Nat.le_of_ble_eq_true rfl)) dX0_move_10 ⟨Nat.zero_le _, Nat.zero_le _⟩) ?_
  refine W.eq (g2 := F0 m 13 ls [.int (isn (nI j) n)]) rfl ?_
  refine lv_if_ne (tgt := 26) hx hb dX0_move_13 (by decide) (fun h13 => ?_) (fun h13 => absurd h13 (by rw [isn_1 hj (by omega)]; decide))
  refine lv_aload_n hx hb dX0_move_26 rfl (lv_at hl 0 rfl) ?_
  refine va_get (D := (dC, dI)) (ci := 0) (v := .ref (a 3)) (C := RX0) (T := TX0) (N := 11) hx hb hts hiw hown hK hP 0 rfl rfl 2 (by decide) hf_17 (fun _ h9 => h9) rfl dX0_move_27 ?_
  refine lv_iload_n hx hb dX0_move_30 rfl (lv_at hl 1 rfl) ?_
  refine ga_iald hx hb hK hP 3 0 rfl rfl i (v := nI (cf i)) rfl (by omega) (by decide) dX0_move_31 ?_
  refine lv_bipush (v := 6) hx hb dX0_move_32 (by decide) ?_
  refine lv_icmp_lt (tgt := 47) hx hb dX0_move_34 (by decide) (fun h34 => ?_) (fun h34 => absurd (show nI (cf i) < 6 from nI_lt hc (by decide)) h34)
  refine lv_aload_n hx hb dX0_move_47 rfl (lv_at hl 0 rfl) ?_
  refine va_get (D := (dC, dI)) (ci := 0) (v := .ref (a 3)) (C := RX0) (T := TX0) (N := 11) hx hb hts hiw hown hK hP 0 rfl rfl 2 (by decide) hf_17 (fun _ h9 => h9) rfl dX0_move_48 ?_
  refine lv_iload_n hx hb dX0_move_51 rfl (lv_at hl 1 rfl) ?_
  refine ga_iald hx hb hK hP 3 0 rfl rfl i (v := nI (cf i)) rfl (by omega) (by decide) dX0_move_52 ?_
  refine lv_istore_n (lv' := [(3, .int (nI (cf i))), (0, .ref (a 0)), (1, .int (nI i)), (2, .int (nI j))]) hx hb dX0_move_53 rfl hl (by decide) rfl (fun ls hl => ?_)
  refine lv_aload_n hx hb dX0_move_54 rfl (lv_at hl 1 rfl) ?_
  refine va_get (D := (dC, dI)) (ci := 0) (v := .ref (a 4)) (C := RX0) (T := TX0) (N := 11) hx hb hts hiw hown hK hP 0 rfl rfl 3 (by decide) hf_20 (fun _ h9 => h9) rfl dX0_move_55 ?_
  refine lv_iload_n hx hb dX0_move_58 rfl (lv_at hl 2 rfl) ?_
  refine lv_iload_n hx hb dX0_move_59 rfl (lv_at hl 0 rfl) ?_
  refine W.callR (r := nI (i * 6 + cf i)) (W.runS (As := [.int (nI i), .int (nI (cf i))]) (rest := [.ref (a 4)]) ⟨hx, hb, hml, hown, hts⟩ (kX0_place l i (cf i)) (va_cwS 2 hts gX0_move_X0_place rfl rfl rfl (by decide +kernel) ⟨Nat.le_of_ble_eq_true rfl, Nat.le_of_ble_eq_true rfl⟩) ⟨blindT, fun _ _ _ => ⟨rfl, trivial⟩⟩ rfl rfl hl.1 rfl (lv_room (Nat.le_of_ble_eq_true rfl)) dX0_move_60 ⟨Nat.zero_le _, Nat.zero_le _⟩) ?_
  refine W.eq (g2 := F0 m 63 ls [.int (nI (i * 6 + cf i)), .ref (a 4)]) rfl ?_
  refine lv_iload_n hx hb dX0_move_63 rfl (lv_at hl 3 rfl) ?_
  refine ga_iast hx hb hK hP hD hS 4 0 rfl rfl (i * 6 + cf i) (by omega) (by decide) (upd_nI _ _ j) (ws' := XW cI cZ cA a n am rf mk wv lo cf (va_up tf (i * 6 + cf i) j) T mt im) rfl dX0_move_64 (fun H locs hP hD hS => ?_)
  refine lv_aload_n hx hb dX0_move_65 rfl (lv_at hl 1 rfl) ?_
  refine va_get (D := (dC, dI)) (ci := 0) (v := .ref (a 3)) (C := RX0) (T := TX0) (N := 11) hx hb hts hiw hown hK hP 0 rfl rfl 2 (by decide) hf_17 (fun _ h9 => h9) rfl dX0_move_66 ?_
  refine lv_iload_n hx hb dX0_move_69 rfl (lv_at hl 2 rfl) ?_
  refine lv_dup2_11 hx hb dX0_move_70 rfl rfl ?_
  refine ga_iald hx hb hK hP 3 0 rfl rfl i (v := nI (cf i)) rfl (by omega) (by decide) dX0_move_71 ?_
  refine lv_iconst (v := 1) hx hb dX0_move_72 (by decide) ?_
  refine lv_iadd hx hb dX0_move_73 ?_
  refine ga_is (y := nI (cf i + 1)) (nI_1 _) ?_
  refine ga_iast hx hb hK hP hD hS 3 0 rfl rfl i (by omega) (by decide) (upd_nI _ _ (cf i + 1)) (ws' := XW cI cZ cA a n am rf mk wv lo (va_up cf i (cf i + 1)) (va_up tf (i * 6 + cf i) j) T mt im) rfl dX0_move_74 (fun H locs hP hD hS => ?_)
  refine lv_aload_n hx hb dX0_move_75 rfl (lv_at hl 1 rfl) ?_
  refine lv_dup hx hb dX0_move_76 rfl ?_
  refine va_get (D := (dC, dI)) (ci := 0) (v := .int (nI am)) (C := RX0) (T := TX0) (N := 11) hx hb hts hiw hown hK hP 0 rfl rfl 5 (by decide) hf_27 (fun _ h9 => h9) rfl dX0_move_77 ?_
  refine lv_iconst (v := 1) hx hb dX0_move_80 (by decide) ?_
  refine lv_iadd hx hb dX0_move_81 ?_
  refine ga_is (y := nI (am + 1)) (nI_1 am) ?_
  refine va_put (D := (dC, dI)) (ci := 0) (v := .int (nI (am + 1))) (ty := .int) (C := RX0) (T := TX0) (N := 11) hx hb hts hiw tyX0 tyX0_ok nmX0 hown hK hP hD hS 0 rfl rfl 5 (by decide) hf_27 (fun _ h9 => h9) rfl (by decide +kernel) rfl rfl (Nat.le_of_ble_eq_true rfl) dX0_move_82 (fun H locs hP hD hS => ?_)
  have hP : va_P (dC, dI) vwCl (XW cI cZ cA a n (am + 1) rf mk wv lo (va_up cf i (cf i + 1)) (va_up tf (i * 6 + cf i) j) T mt im) H := hP
  have hD : va_D A (XW cI cZ cA a n (am + 1) rf mk wv lo (va_up cf i (cf i + 1)) (va_up tf (i * 6 + cf i) j) T mt im) := hD
  refine lv_aload_n hx hb dX0_move_85 rfl (lv_at hl 1 rfl) ?_
  have hF := freeAll hD hS hA
  refine va_callv (va_runV (As := []) (rest := []) ⟨hx, hb, hml, hown, hts⟩ (kX0_forgetTable l dC dI cI cZ cA a H.size n (am + 1) rf mk wv lo (va_up cf i (cf i + 1)) (va_up tf (i * 6 + cf i) j) T mt im) (cwV 0 hts gX0_move_X0_forgetTable rfl rfl rfl (by decide +kernel) ⟨Nat.le_of_ble_eq_true rfl, Nat.le_of_ble_eq_true rfl⟩) ⟨blindW, va_recv hK hP (ci := 0) (q0 := 0) rfl rfl, preW hP hK hD⟩ rfl rfl hl.1 rfl (lv_room (Nat.le_of_ble_eq_true rfl)) dX0_move_86 ⟨Nat.zero_le _, Nat.zero_le _⟩) hS (fun q _ h => hF q h) hF (fun _u tS H1 locs htS hvm hw hB hz1 hk1 hS => ?_)
  obtain ⟨hP1, hK1, hD1⟩ := hB
  rw [htS] at hP1
  have hP : va_P (dC, dI) vwCl (XW cI cZ cA a n (am + 1) 0 mk wv lo (va_up cf i (cf i + 1)) (va_up tf (i * 6 + cf i) j) T mt im) H1 := hP1
  have hD : va_D A (XW cI cZ cA a n (am + 1) 0 mk wv lo (va_up cf i (cf i + 1)) (va_up tf (i * 6 + cf i) j) T mt im) := hD1.weaken (fun _ _ _ h => hF _ h)
  generalize H1 = H at hP hS ⊢
  refine W.eq (g2 := F0 m 89 ls []) rfl ?_
  refine lv_iload_n hx hb dX0_move_89 rfl (lv_at hl 0 rfl) ?_
  exact W.iret (v := (nI (cf i))) hx hb hr (fun t ht hW => ⟨⟨(nI (cf i)), (), rfl, rfl, by rw [ht]; exact hP, va_K.moved hW.alike hK, hD⟩, hS.F ht⟩) hS.2.2 dX0_move_90
