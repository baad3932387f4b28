set_option maxHeartbeats 4000000 in
set_option maxRecDepth 100000 in
/-- isWorth -/
theorem kX0_isWorth (l : Launch) (w : Int32)  : Met l yX0_isWorth wsX0_isWorth ({ frames := 0, cells := 0, slots := 0, locals := 0 }) (va_Pc [.int w] (fun _ => True)) (QcRead (iw w)) 0 0 (fun _ => False) := by
  refine Met.ofW (cc := cX0_isWorth) (maxL := 1) (ret := (some .boolean)) (by decide) rfl ?_
  intro p e s m args below meth c s₁ B hml hv
  obtain ⟨rfl, -⟩ := hv
  have hx := B.exec
  have hb := B.bytes
  have hr := B.returns
  have hts := atoms_spec (ws := wsX0_isWorth) B.pre
  have hown : s.vm.findClass RX0 = some m.cls := findClass_of_methodNamed B.named
  have hlocks := B.notSynchronized
  have hl := lv_entry ([.int w]) (n := 1) (Nat.le_of_ble_eq_true rfl)
  rw [lg_entry_eq]
  generalize (lg_sl ([.int w]) ++ List.replicate (1 - (lg_sl ([.int w])).length) Slot.unset).toArray = ls at hl ⊢
  have hl : lv_has ls 1 [(0, .int w)] := hl
  refine lv_iload_n hx hb dX0_isWorth_0 rfl (lv_at hl 0 rfl) ?_
  refine lv_sipush (v := (-500)) hx hb dX0_isWorth_1 (by decide) ?_
  refine lv_icmp_lt (tgt := 18) hx hb dX0_isWorth_4 (by decide) (fun h4 => ?_) (fun h4 => ?_)
  · refine lv_iconst (v := 0) hx hb dX0_isWorth_18 (by decide) ?_
    exact W.zret (v := 0) hx hb hr (by decide) (fun t ht hW => ⟨by rw [iw, if_pos h4], ht⟩) (fun _ h => nomatch h) dX0_isWorth_19
  · refine lv_iload_n hx hb dX0_isWorth_7 rfl (lv_at hl 0 rfl) ?_
    refine lv_sipush (v := 500) hx hb dX0_isWorth_8 (by decide) ?_
    refine lv_icmp_gt (tgt := 18) hx hb dX0_isWorth_11 (by decide) (fun h11 => ?_) (fun h11 => ?_)
    · refine lv_iconst (v := 0) hx hb dX0_isWorth_18 (by decide) ?_
      exact W.zret (v := 0) hx hb hr (by decide) (fun t ht hW => ⟨by rw [iw, if_neg h4, if_pos h11], ht⟩) (fun _ h => nomatch h) dX0_isWorth_19
    · refine lv_iconst (v := 1) hx hb dX0_isWorth_14 (by decide) ?_
      refine lv_goto (tgt := 19) hx hb dX0_isWorth_15 (by decide) ?_
      exact W.zret (v := 1) hx hb hr (by decide) (fun t ht hW => ⟨by rw [iw, if_neg h4, if_neg h11], ht⟩) (fun _ h => nomatch h) dX0_isWorth_19
set_option maxHeartbeats 4000000 in
set_option maxRecDepth 100000 in
/-- place -/
theorem kX0_place (l : Launch) (x j : Nat)  : Met l yX0_place wsX0_place ({ frames := 0, cells := 0, slots := 0, locals := 0 }) (va_Pc [.int (nI x), .int (nI j)] (fun _ => True)) (QcRead (nI (x * 6 + j))) 0 0 (fun _ => False) := by
  refine Met.ofW (cc := cX0_place) (maxL := 2) (ret := (some .int)) (by decide) rfl ?_
  intro p e s m args below meth c s₁ B hml hv
  obtain ⟨rfl, -⟩ := hv
  have hx := B.exec
  have hb := B.bytes
  have hr := B.returns
  have hts := atoms_spec (ws := wsX0_place) B.pre
  have hown : s.vm.findClass RX0 = some m.cls := findClass_of_methodNamed B.named
  have hlocks := B.notSynchronized
  have hl := lv_entry ([.int (nI x), .int (nI j)]) (n := 2) (Nat.le_of_ble_eq_true rfl)
  rw [lg_entry_eq]
  generalize (lg_sl ([.int (nI x), .int (nI j)]) ++ List.replicate (2 - (lg_sl ([.int (nI x), .int (nI j)])).length) Slot.unset).toArray = ls at hl ⊢
  have hl : lv_has ls 2 [(0, .int (nI x)), (1, .int (nI j))] := hl
  refine lv_iload_n hx hb dX0_place_0 rfl (lv_at hl 0 rfl) ?_
  refine lv_bipush (v := 6) hx hb dX0_place_1 (by decide) ?_
  refine lv_imul hx hb dX0_place_3 ?_
  refine lv_iload_n hx hb dX0_place_4 rfl (lv_at hl 1 rfl) ?_
  refine lv_iadd hx hb dX0_place_5 ?_
  exact W.iret (v := (((nI x) * 6) + (nI j))) hx hb hr (fun t ht hW => ⟨by rw [show (6 : Int32) = nI 6 from rfl, pk_mul, nI_add], ht⟩) (fun _ h => nomatch h) dX0_place_6
set_option maxHeartbeats 4000000 in
set_option maxRecDepth 100000 in
/-- halfMoveBack -/
theorem kX0_halfMoveBack (l : Launch) (v : Int32)  : Met l yX0_halfMoveBack wsX0_halfMoveBack ({ frames := 0, cells := 0, slots := 0, locals := 0 }) (va_Pc [.int v] (fun _ => True)) (QcRead (B32 v)) 0 0 (fun _ => False) := by
  refine Met.ofW (cc := cX0_halfMoveBack) (maxL := 2) (ret := (some .int)) (by decide) rfl ?_
  intro p e s m args below meth c s₁ B hml hv
  obtain ⟨rfl, -⟩ := hv
  have hx := B.exec
  have hb := B.bytes
  have hr := B.returns
  have hts := atoms_spec (ws := wsX0_halfMoveBack) B.pre
  have hown : s.vm.findClass RX0 = some m.cls := findClass_of_methodNamed B.named
  have hlocks := B.notSynchronized
  have hl := lv_entry ([.int v]) (n := 2) (Nat.le_of_ble_eq_true rfl)
  rw [lg_entry_eq]
  generalize (lg_sl ([.int v]) ++ List.replicate (2 - (lg_sl ([.int v])).length) Slot.unset).toArray = ls at hl ⊢
  have hl : lv_has ls 2 [(0, .int v)] := hl
  refine lv_iload_n hx hb dX0_halfMoveBack_0 rfl (lv_at hl 0 rfl) ?_
  refine lv_ineg hx hb dX0_halfMoveBack_1 ?_
  refine lv_istore_n (lv' := [(1, .int (-v)), (0, .int v)]) hx hb dX0_halfMoveBack_2 rfl hl (by decide) rfl (fun ls hl => ?_)
  refine lv_iload_n hx hb dX0_halfMoveBack_3 rfl (lv_at hl 0 rfl) ?_
  refine lv_sipush (v := (-900)) hx hb dX0_halfMoveBack_4 (by decide) ?_
  refine lv_icmp_ge (tgt := 14) hx hb dX0_halfMoveBack_7 (by decide) (fun h7 => ?_) (fun h7 => ?_)
  · refine lv_iload_n hx hb dX0_halfMoveBack_14 rfl (lv_at hl 0 rfl) ?_
    refine lv_sipush (v := 900) hx hb dX0_halfMoveBack_15 (by decide) ?_
    refine lv_icmp_le (tgt := 25) hx hb dX0_halfMoveBack_18 (by decide) (fun h18 => ?_) (fun h18 => ?_)
    · refine lv_iload_n hx hb dX0_halfMoveBack_25 rfl (lv_at hl 0 rfl) ?_
      exact W.iret (v := (-v)) hx hb hr (fun t ht hW => ⟨by rw [B32, if_pos h7, if_pos h18], ht⟩) (fun _ h => nomatch h) dX0_halfMoveBack_26
    · refine lv_iload_n hx hb dX0_halfMoveBack_21 rfl (lv_at hl 0 rfl) ?_
      refine lv_iconst (v := 1) hx hb dX0_halfMoveBack_22 (by decide) ?_
      refine lv_isub hx hb dX0_halfMoveBack_23 ?_
      exact W.iret (v := ((-v) - 1)) hx hb hr (fun t ht hW => ⟨by rw [B32, if_pos h7, if_neg h18], ht⟩) (fun _ h => nomatch h) dX0_halfMoveBack_24
  · refine lv_iload_n hx hb dX0_halfMoveBack_10 rfl (lv_at hl 0 rfl) ?_
    refine lv_iconst (v := 1) hx hb dX0_halfMoveBack_11 (by decide) ?_
    refine lv_iadd hx hb dX0_halfMoveBack_12 ?_
    exact W.iret (v := ((-v) + 1)) hx hb hr (fun t ht hW => ⟨by rw [B32, if_neg h7], ht⟩) (fun _ h => nomatch h) dX0_halfMoveBack_13
set_option maxHeartbeats 4000000 in
set_option maxRecDepth 100000 in
/-- isNode -/
theorem kX0_isNode (l : Launch) (dC : Nat → ClassId) (dI : Nat → Nat → Nat) (cI cZ cA : ClassId) (a : Nat → Nat) (n : Nat) (am : Nat) (rf : Nat) (mk : Nat) (wv : Nat → Int32) (lo : Nat → Int32) (cf : Nat → Nat) (tf : Nat → Nat) (T : Nat → Nat → Int32) (mt : Nat → Nat) (im : Nat → Int32) (x : Int32)  : Met l yX0_isNode wsX0_isNode ({ frames := 0, cells := 0, slots := 0, locals := 0 }) (va_Pc [.ref (a 0), .int x] (RP dC dI (GT cI cZ cA) (XW cI cZ cA a n am rf mk wv lo cf tf T mt im))) (QcRead (isn x n)) 0 0 (fun _ => False) := by
  refine Met.ofW (cc := cX0_isNode) (maxL := 2) (ret := (some .boolean)) (by decide) rfl ?_
  intro p e s m args below meth c s₁ B hml hv
  obtain ⟨rfl, hP, hK⟩ := hv
  have hx := B.exec
  have hb := B.bytes
  have hr := B.returns
  have hts := atoms_spec (ws := wsX0_isNode) B.pre
  have hown : s.vm.findClass RX0 = some m.cls := findClass_of_methodNamed B.named
  have hlocks := B.notSynchronized
  have hf_23 := hts (.fieldLink RX0 23 "GraphSearch" "nodeCount" "I") (by decide +kernel)
  have hiw : ∀ w ∈ wsX00, w ∈ wsX0_isNode := by decide +kernel
  have hl := lv_entry ([.ref (a 0), .int x]) (n := 2) (Nat.le_of_ble_eq_true rfl)
  rw [lg_entry_eq]
  generalize (lg_sl ([.ref (a 0), .int x]) ++ List.replicate (2 - (lg_sl ([.ref (a 0), .int x])).length) Slot.unset).toArray = ls at hl ⊢
  have hl : lv_has ls 2 [(0, .ref (a 0)), (1, .int x)] := hl
  refine lv_iload_n hx hb dX0_isNode_0 rfl (lv_at hl 1 rfl) ?_
  refine lv_if_lt (tgt := 16) hx hb dX0_isNode_1 (by decide) (fun h1 => ?_) (fun h1 => ?_)
  · refine lv_iconst (v := 0) hx hb dX0_isNode_16 (by decide) ?_
    exact W.zret (v := 0) hx hb hr (by decide) (fun t ht hW => ⟨by rw [isn, if_pos h1], ht⟩) (fun _ h => nomatch h) dX0_isNode_17
  · refine lv_iload_n hx hb dX0_isNode_4 rfl (lv_at hl 1 rfl) ?_
    refine lv_aload_n hx hb dX0_isNode_5 rfl (lv_at hl 0 rfl) ?_
    refine va_get (D := (dC, dI)) (ci := 0) (v := .int (nI n)) (C := RX0) (T := TX0) (N := 11) hx hb hts hiw hown hK hP 0 rfl rfl 4 (by decide) hf_23 (fun _ h9 => h9) rfl dX0_isNode_6 ?_
    refine lv_icmp_ge (tgt := 16) hx hb dX0_isNode_9 (by decide) (fun h9 => ?_) (fun h9 => ?_)
    · refine lv_iconst (v := 0) hx hb dX0_isNode_16 (by decide) ?_
      exact W.zret (v := 0) hx hb hr (by decide) (fun t ht hW => ⟨by rw [isn, if_neg h1, if_pos h9], ht⟩) (fun _ h => nomatch h) dX0_isNode_17
    · refine lv_iconst (v := 1) hx hb dX0_isNode_12 (by decide) ?_
      refine lv_goto (tgt := 17) hx hb dX0_isNode_13 (by decide) ?_
      exact W.zret (v := 1) hx hb hr (by decide) (fun t ht hW => ⟨by rw [isn, if_neg h1, if_neg h9], ht⟩) (fun _ h => nomatch h) dX0_isNode_17
