def lok (n am : Nat) (v : Int32) : Int32 := if v = 0 then nI n else if v = 1 then nI am else (-1)
/-- where move v - 3 leads to -/
def ton (cf tf : Nat → Nat) (x : Nat) (v : Int32) : Int32 := if v < 3 then (-1) else if v < nI (3 + cf x) then nI (tf (x * 6 + (v.toNatClampNeg - 3))) else (-1)
theorem ton_in {cf : Nat → Nat} {x : Nat} {v : Int32} (hc : cf x ≤ 6) (h1 : ¬ v < 3) (h2 : v < nI (3 + cf x)) : ∃ j, j < cf x ∧ v = nI (j + 3) := by
  have h0 : ¬ v < 0 := by
    intro h
    apply h1
    rw [Int32.lt_iff_toInt_lt] at h ⊢
    have e1 : (0 : Int32).toInt = 0 := by decide +kernel
    have e2 : (3 : Int32).toInt = 3 := by decide +kernel
    omega
  obtain ⟨k, hk, rfl⟩ := nI_of h0
  rw [show (3 : Int32) = nI 3 from rfl, nI_ltI hk (by decide)] at h1
  rw [nI_ltI hk (by omega)] at h2
  exact ⟨k - 3, by omega, by rw [Nat.sub_add_cancel (by omega)]⟩
theorem ton_at {cf tf : Nat → Nat} {x j : Nat} (hc : cf x ≤ 6) (hj : j < cf x) : ton cf tf x (nI (j + 3)) = nI (tf (x * 6 + j)) := by
  unfold ton
  rw [show (3 : Int32) = nI 3 from rfl, if_neg (nI_nlt (b := 3) (a := j + 3) (by omega) (by omega)), if_pos (nI_lt (by omega) (by omega)), nI_clamp (by omega), Nat.add_sub_cancel]
set_option maxHeartbeats 4000000 in
set_option maxRecDepth 100000 in
/-- moveValue -/
theorem kX0_moveValue (l : Launch) (dC : Nat → ClassId) (dI : Nat → Nat → Nat) (cI cZ cA : ClassId) (a : Nat → Nat) (n : Nat) (am : Nat) (rf : Nat) (mk : Nat) (wv : Nat → Int32) (lo : Nat → Int32) (cf : Nat → Nat) (tf : Nat → Nat) (T : Nat → Nat → Int32) (mt : Nat → Nat) (im : Nat → Int32) (x j d : Nat) (hd : d < 8) (hx6 : x * 6 + j < 2400) (ht : tf (x * 6 + j) < 400) : Met l yX0_moveValue wsX0_moveValue ({ frames := 1, cells := 0, slots := 0, locals := 21 }) (va_Pc [.ref (a 0), .int (nI x), .int (nI j), .int (nI (d + 1))] (RP dC dI (GT cI cZ cA) (XW cI cZ cA a n am rf mk wv lo cf tf T mt im))) (QcRead (gv tf (T d) x j)) 0 0 (fun _ => False) := by
  refine Met.ofW (cc := cX0_moveValue) (maxL := 4) (ret := (some .int)) (by decide) rfl ?_
  intro p e s m args below meth c s₁ B hml hv
  obtain ⟨rfl, hP, hK⟩ := hv
  have hx := B.exec
  have hb := B.bytes
  have hr := B.returns
  have hts := atoms_spec (ws := wsX0_moveValue) B.pre
  have hown : s.vm.findClass RX0 = some m.cls := findClass_of_methodNamed B.named
  have hlocks := B.notSynchronized
  have hf_32 := hts (.fieldLink RX0 32 "GraphSearch" "table" "[[I") (by decide +kernel)
  have hf_20 := hts (.fieldLink RX0 20 "GraphSearch" "targets" "[I") (by decide +kernel)
  have hiw : ∀ w ∈ wsX00, w ∈ wsX0_moveValue := by decide +kernel
  have hl := lv_entry ([.ref (a 0), .int (nI x), .int (nI j), .int (nI (d + 1))]) (n := 4) (Nat.le_of_ble_eq_true rfl)
  rw [lg_entry_eq]
  generalize (lg_sl ([.ref (a 0), .int (nI x), .int (nI j), .int (nI (d + 1))]) ++ List.replicate (4 - (lg_sl ([.ref (a 0), .int (nI x), .int (nI j), .int (nI (d + 1))])).length) Slot.unset).toArray = ls at hl ⊢
  have hl : lv_has ls 4 [(0, .ref (a 0)), (1, .int (nI x)), (2, .int (nI j)), (3, .int (nI (d + 1)))] := hl
  refine lv_aload_n hx hb dX0_moveValue_0 rfl (lv_at hl 0 rfl) ?_
  refine va_get (D := (dC, dI)) (ci := 0) (v := .ref (a 5)) (C := RX0) (T := TX0) (N := 11) hx hb hts hiw hown hK hP 0 rfl rfl 6 (by decide) hf_32 (fun _ h9 => h9) rfl dX0_moveValue_1 ?_
  refine lv_iload_n hx hb dX0_moveValue_4 rfl (lv_at hl 3 rfl) ?_
  refine lv_iconst (v := 1) hx hb dX0_moveValue_5 (by decide) ?_
  refine lv_isub hx hb dX0_moveValue_6 ?_
  refine ga_is (y := nI d) (nI_pred d) ?_
  refine ga_aald hx hb hK hP 5 2 rfl rfl d (a (8 + d)) (if_pos (by omega)) (by omega) (by decide) dX0_moveValue_7 ?_
  refine lv_aload_n hx hb dX0_moveValue_8 rfl (lv_at hl 0 rfl) ?_
  refine va_get (D := (dC, dI)) (ci := 0) (v := .ref (a 4)) (C := RX0) (T := TX0) (N := 11) hx hb hts hiw hown hK hP 0 rfl rfl 3 (by decide) hf_20 (fun _ h9 => h9) rfl dX0_moveValue_9 ?_
  refine lv_iload_n hx hb dX0_moveValue_12 rfl (lv_at hl 1 rfl) ?_
  refine lv_iload_n hx hb dX0_moveValue_13 rfl (lv_at hl 2 rfl) ?_
  refine W.callR (r := nI (x * 6 + j)) (W.runS (As := [.int (nI x), .int (nI j)]) (rest := [.ref (a 4), .ref (a (8 + d))]) ⟨hx, hb, hml, hown, hts⟩ (kX0_place l x j) (va_cwS 2 hts gX0_moveValue_X0_place rfl rfl rfl (by decide +kernel) ⟨Nat.le_of_ble_eq_true rfl, Nat.le_of_ble_eq_true rfl⟩) ⟨blindT, fun _ _ _ => ⟨rfl, trivial⟩⟩ rfl rfl hl.1 rfl (lv_room (Nat.le_of_ble_eq_true rfl)) dX0_moveValue_14 ⟨Nat.zero_le _, Nat.zero_le _⟩) ?_
  refine W.eq (g2 := F0 m 17 ls [.int (nI (x * 6 + j)), .ref (a 4), .ref (a (8 + d))]) rfl ?_
  refine ga_iald hx hb hK hP 4 0 rfl rfl (x * 6 + j) (v := nI (tf (x * 6 + j))) rfl (by omega) (by decide) dX0_moveValue_17 ?_
  refine ga_iald hx hb hK hP (8 + d) 0 (XW_row (by omega)) rfl (tf (x * 6 + j)) (v := T d (tf (x * 6 + j))) rfl (by omega) (by decide) dX0_moveValue_18 ?_
  refine W.callR (r := B32 (T d (tf (x * 6 + j)))) (W.runS (As := [.int (T d (tf (x * 6 + j)))]) (rest := []) ⟨hx, hb, hml, hown, hts⟩ (kX0_halfMoveBack l (T d (tf (x * 6 + j)))) (va_cwS 1 hts gX0_moveValue_X0_halfMoveBack rfl rfl rfl (by decide +kernel) ⟨Nat.le_of_ble_eq_true rfl, Nat.le_of_ble_eq_true rfl⟩) ⟨blindT, fun _ _ _ => ⟨rfl, trivial⟩⟩ rfl rfl hl.1 rfl (lv_room (Nat.le_of_ble_eq_true rfl)) dX0_moveValue_19 ⟨Nat.zero_le _, Nat.zero_le _⟩) ?_
  refine W.eq (g2 := F0 m 22 ls [.int (B32 (T d (tf (x * 6 + j))))]) rfl ?_
  exact W.iret (v := (B32 (T d (tf (x * 6 + j))))) hx hb hr (fun t ht hW => ⟨rfl, ht⟩) (fun _ h => nomatch h) dX0_moveValue_22
set_option maxHeartbeats 4000000 in
set_option maxRecDepth 100000 in
/-- targetOrNone -/
theorem kX0_targetOrNone (l : Launch) (dC : Nat → ClassId) (dI : Nat → Nat → Nat) (cI cZ cA : ClassId) (a : Nat → Nat) (n : Nat) (am : Nat) (rf : Nat) (mk : Nat) (wv : Nat → Int32) (lo : Nat → Int32) (cf : Nat → Nat) (tf : Nat → Nat) (T : Nat → Nat → Int32) (mt : Nat → Nat) (im : Nat → Int32) (x : Nat) (v : Int32) (hx4 : x < 400) (hc : cf x ≤ 6) : Met l yX0_targetOrNone wsX0_targetOrNone ({ frames := 1, cells := 0, slots := 0, locals := 21 }) (va_Pc [.ref (a 0), .int (nI x), .int v] (RP dC dI (GT cI cZ cA) (XW cI cZ cA a n am rf mk wv lo cf tf T mt im))) (QcRead (ton cf tf x v)) 0 0 (fun _ => False) := by
  refine Met.ofW (cc := cX0_targetOrNone) (maxL := 3) (ret := (some .int)) (by decide) rfl ?_
  intro p e s m args below meth c s₁ B hml hv
  obtain ⟨rfl, hP, hK⟩ := hv
  have hx := B.exec
  have hb := B.bytes
  have hr := B.returns
  have hts := atoms_spec (ws := wsX0_targetOrNone) B.pre
  have hown : s.vm.findClass RX0 = some m.cls := findClass_of_methodNamed B.named
  have hlocks := B.notSynchronized
  have hf_17 := hts (.fieldLink RX0 17 "GraphSearch" "moveCounts" "[I") (by decide +kernel)
  have hf_20 := hts (.fieldLink RX0 20 "GraphSearch" "targets" "[I") (by decide +kernel)
  have hiw : ∀ w ∈ wsX00, w ∈ wsX0_targetOrNone := by decide +kernel
  have hl := lv_entry ([.ref (a 0), .int (nI x), .int v]) (n := 3) (Nat.le_of_ble_eq_true rfl)
  rw [lg_entry_eq]
  generalize (lg_sl ([.ref (a 0), .int (nI x), .int v]) ++ List.replicate (3 - (lg_sl ([.ref (a 0), .int (nI x), .int v])).length) Slot.unset).toArray = ls at hl ⊢
  have hl : lv_has ls 3 [(0, .ref (a 0)), (1, .int (nI x)), (2, .int v)] := hl
  refine lv_iload_n hx hb dX0_targetOrNone_0 rfl (lv_at hl 2 rfl) ?_
  refine lv_iconst (v := 3) hx hb dX0_targetOrNone_1 (by decide) ?_
  refine lv_icmp_lt (tgt := 17) hx hb dX0_targetOrNone_2 (by decide) (fun h2 => ?_) (fun h2 => ?_)
  · refine lv_iconst (v := (-1)) hx hb dX0_targetOrNone_17 (by decide) ?_
    exact W.iret (v := (-1)) hx hb hr (fun t ht hW => ⟨by rw [ton, if_pos h2], ht⟩) (fun _ h => nomatch h) dX0_targetOrNone_18
  · refine lv_iload_n hx hb dX0_targetOrNone_5 rfl (lv_at hl 2 rfl) ?_
    refine lv_iconst (v := 3) hx hb dX0_targetOrNone_6 (by decide) ?_
    refine lv_aload_n hx hb dX0_targetOrNone_7 rfl (lv_at hl 0 rfl) ?_
    refine va_get (D := (dC, dI)) (ci := 0) (v := .ref (a 3)) (C := RX0) (T := TX0) (N := 11) hx hb hts hiw hown hK hP 0 rfl rfl 2 (by decide) hf_17 (fun _ h9 => h9) rfl dX0_targetOrNone_8 ?_
    refine lv_iload_n hx hb dX0_targetOrNone_11 rfl (lv_at hl 1 rfl) ?_
    refine ga_iald hx hb hK hP 3 0 rfl rfl x (v := nI (cf x)) rfl (by omega) (by decide) dX0_targetOrNone_12 ?_
    refine lv_iadd hx hb dX0_targetOrNone_13 ?_
    refine ga_is (y := nI (3 + cf x)) (nI_add 3 (cf x)) ?_
    refine lv_icmp_lt (tgt := 19) hx hb dX0_targetOrNone_14 (by decide) (fun h14 => ?_) (fun h14 => ?_)
    · obtain ⟨j, hj, rfl⟩ : ∃ j, j < cf x ∧ v = nI (j + 3) := ton_in hc h2 h14
      refine lv_aload_n hx hb dX0_targetOrNone_19 rfl (lv_at hl 0 rfl) ?_
      refine va_get (D := (dC, dI)) (ci := 0) (v := .ref (a 4)) (C := RX0) (T := TX0) (N := 11) hx hb hts hiw hown hK hP 0 rfl rfl 3 (by decide) hf_20 (fun _ h9 => h9) rfl dX0_targetOrNone_20 ?_
      refine lv_iload_n hx hb dX0_targetOrNone_23 rfl (lv_at hl 1 rfl) ?_
      refine lv_iload_n hx hb dX0_targetOrNone_24 rfl (lv_at hl 2 rfl) ?_
      refine lv_iconst (v := 3) hx hb dX0_targetOrNone_25 (by decide) ?_
      refine lv_isub hx hb dX0_targetOrNone_26 ?_
      refine ga_is (y := nI j) (by rw [show (3 : Int32) = nI 3 from rfl, pk_sub (by omega), Nat.add_sub_cancel]) ?_
      refine W.callR (r := nI (x * 6 + j)) (W.runS (As := [.int (nI x), .int (nI j)]) (rest := [.ref (a 4)]) ⟨hx, hb, hml, hown, hts⟩ (kX0_place l x j) (va_cwS 2 hts gX0_targetOrNone_X0_place rfl rfl rfl (by decide +kernel) ⟨Nat.le_of_ble_eq_true rfl, Nat.le_of_ble_eq_true rfl⟩) ⟨blindT, fun _ _ _ => ⟨rfl, trivial⟩⟩ rfl rfl hl.1 rfl (lv_room (Nat.le_of_ble_eq_true rfl)) dX0_targetOrNone_27 ⟨Nat.zero_le _, Nat.zero_le _⟩) ?_
      refine W.eq (g2 := F0 m 30 ls [.int (nI (x * 6 + j)), .ref (a 4)]) rfl ?_
      refine ga_iald hx hb hK hP 4 0 rfl rfl (x * 6 + j) (v := nI (tf (x * 6 + j))) rfl (by omega) (by decide) dX0_targetOrNone_30 ?_
      exact W.iret (v := (nI (tf (x * 6 + j)))) hx hb hr (fun t ht hW => ⟨by rw [ton_at hc hj], ht⟩) (fun _ h => nomatch h) dX0_targetOrNone_31
    · refine lv_iconst (v := (-1)) hx hb dX0_targetOrNone_17 (by decide) ?_
      exact W.iret (v := (-1)) hx hb hr (fun t ht hW => ⟨by rw [ton, if_neg h2, if_neg h14], ht⟩) (fun _ h => nomatch h) dX0_targetOrNone_18
set_option maxHeartbeats 4000000 in
set_option maxRecDepth 100000 in
/-- look -/
theorem kX0_look (l : Launch) (dC : Nat → ClassId) (dI : Nat → Nat → Nat) (cI cZ cA : ClassId) (a : Nat → Nat) (n : Nat) (am : Nat) (rf : Nat) (mk : Nat) (wv : Nat → Int32) (lo : Nat → Int32) (cf : Nat → Nat) (tf : Nat → Nat) (T : Nat → Nat → Int32) (mt : Nat → Nat) (im : Nat → Int32) (v : Int32)  : Met l yX0_look wsX0_look ({ frames := 0, cells := 0, slots := 0, locals := 0 }) (va_Pc [.ref (a 0), .int v] (RP dC dI (GT cI cZ cA) (XW cI cZ cA a n am rf mk wv lo cf tf T mt im))) (QcRead (lok n am v)) 0 0 (fun _ => False) := by
  refine Met.ofW (cc := cX0_look) (maxL := 2) (ret := (some .int)) (by decide) rfl ?_
  intro p e s m args below meth c s₁ B hml hv
  obtain ⟨rfl, hP, hK⟩ := hv
  have hx := B.exec
  have hb := B.bytes
  have hr := B.returns
  have hts := atoms_spec (ws := wsX0_look) B.pre
  have hown : s.vm.findClass RX0 = some m.cls := findClass_of_methodNamed B.named
  have hlocks := B.notSynchronized
  have hf_23 := hts (.fieldLink RX0 23 "GraphSearch" "nodeCount" "I") (by decide +kernel)
  have hf_27 := hts (.fieldLink RX0 27 "GraphSearch" "allMoves" "I") (by decide +kernel)
  have hiw : ∀ w ∈ wsX00, w ∈ wsX0_look := by decide +kernel
  have hl := lv_entry ([.ref (a 0), .int v]) (n := 2) (Nat.le_of_ble_eq_true rfl)
  rw [lg_entry_eq]
  generalize (lg_sl ([.ref (a 0), .int v]) ++ List.replicate (2 - (lg_sl ([.ref (a 0), .int v])).length) Slot.unset).toArray = ls at hl ⊢
  have hl : lv_has ls 2 [(0, .ref (a 0)), (1, .int v)] := hl
  refine lv_iload_n hx hb dX0_look_0 rfl (lv_at hl 1 rfl) ?_
  by_cases h0 : v = 0
  · refine lv_lookup (tgt := 28) (off := 27) hx hb dX0_look_1 (by decide) (by subst h0; decide +kernel) (by decide) ?_
    refine lv_aload_n hx hb dX0_look_28 rfl (lv_at hl 0 rfl) ?_
    refine va_get (D := (dC, dI)) (ci := 0) (v := .int (nI n)) (C := RX0) (T := TX0) (N := 11) hx hb hts hiw hown hK hP 0 rfl rfl 4 (by decide) hf_23 (fun _ h9 => h9) rfl dX0_look_29 ?_
    exact W.iret (v := (nI n)) hx hb hr (fun t ht hW => ⟨by rw [lok, if_pos h0], ht⟩) (fun _ h => nomatch h) dX0_look_32
  · by_cases h1 : v = 1
    · refine lv_lookup (tgt := 33) (off := 32) hx hb dX0_look_1 (by decide) (by subst h1; decide +kernel) (by decide) ?_
      refine lv_aload_n hx hb dX0_look_33 rfl (lv_at hl 0 rfl) ?_
      refine va_get (D := (dC, dI)) (ci := 0) (v := .int (nI am)) (C := RX0) (T := TX0) (N := 11) hx hb hts hiw hown hK hP 0 rfl rfl 5 (by decide) hf_27 (fun _ h9 => h9) rfl dX0_look_34 ?_
      exact W.iret (v := (nI am)) hx hb hr (fun t ht hW => ⟨by rw [lok, if_neg h0, if_pos h1], ht⟩) (fun _ h => nomatch h) dX0_look_37
    · refine lv_lookup (tgt := 38) hx hb dX0_look_1 (by decide) (by show Op.lookupswitch.offset [(0, 27), (1, 32)] 37 v.toInt = 37; rw [lv_osw h0 (by decide +kernel), lv_osw h1 (by decide +kernel)]; rfl) (by decide) ?_
      refine lv_iconst (v := (-1)) hx hb dX0_look_38 (by decide) ?_
      exact W.iret (v := (-1)) hx hb hr (fun t ht hW => ⟨by rw [lok, if_neg h0, if_neg h1], ht⟩) (fun _ h => nomatch h) dX0_look_39
