set_option maxHeartbeats 4000000 in
set_option maxRecDepth 100000 in
/-- thrown -/
theorem kX1_thrown (l : Launch) (dC : Nat → ClassId) (dI : Nat → Nat → Nat) (cI cZ cA : ClassId) (a : Nat → Nat) (th : Nat) (n : Nat) (wv : Nat → Int32) (lo : Nat → Int32) (cf : Nat → Nat) (tf : Nat → Nat) (vs : Nat → Int32) (nr : Nat → Nat)   : Met l yX1_thrown wsX1_thrown ({ frames := 0, cells := 0, slots := 0, locals := 0 }) (va_Pc [.ref (a 0)] (RP dC dI (GT cI cZ cA) (MW cI cZ a th n wv lo cf tf vs nr))) (QcRead (nI th)) 0 0 (fun _ => False) := by
  refine Met.ofW (cc := cX1_thrown) (maxL := 1) (ret := (some .int)) (by decide) rfl ?_
  intro p e s m args below meth c s₁ B hml hv
  obtain ⟨rfl, hP, hK⟩ := hv
  have hx := B.exec
  have hb := B.bytes
  have hr := B.returns
  have hts := atoms_spec (ws := wsX1_thrown) B.pre
  have hown : s.vm.findClass RX1 = some m.cls := findClass_of_methodNamed B.named
  have hlocks := B.notSynchronized
  have hf_29 := hts (.fieldLink RX1 29 "GraphSearchModel" "thrown" "I") (by decide +kernel)
  have hiw : ∀ w ∈ wsX10, w ∈ wsX1_thrown := by decide +kernel
  have hl := lv_entry ([.ref (a 0)]) (n := 1) (Nat.le_of_ble_eq_true rfl)
  rw [lg_entry_eq]
  generalize (lg_sl ([.ref (a 0)]) ++ List.replicate (1 - (lg_sl ([.ref (a 0)])).length) Slot.unset).toArray = ls at hl ⊢
  have hl : lv_has ls 1 [(0, .ref (a 0))] := hl
  refine lv_aload_n hx hb dX1_thrown_0 rfl (lv_at hl 0 rfl) ?_
  refine va_get (D := (dC, dI)) (ci := 1) (v := .int (nI th)) (C := RX1) (T := TX1) (N := 8) hx hb hts hiw hown hK hP 0 rfl rfl 0 (by decide) hf_29 (fun _ h9 => h9) rfl dX1_thrown_1 ?_
  exact W.iret (v := (nI th)) hx hb hr (fun t ht hW => ⟨rfl, ht⟩) (fun _ h => nomatch h) dX1_thrown_4
set_option maxHeartbeats 4000000 in
set_option maxRecDepth 100000 in
/-- isWorth -/
theorem kX1_isWorth (l : Launch) (w : Int32)  : Met l yX1_isWorth wsX1_isWorth ({ frames := 0, cells := 0, slots := 0, locals := 0 }) (va_Pc [.int w] (fun _ => True)) (QcRead (iw w)) 0 0 (fun _ => False) := by
  refine Met.ofW (cc := cX1_isWorth) (maxL := 1) (ret := (some .boolean)) (by decide) rfl ?_
  intro p e s m args below meth c s₁ B hml hv
  obtain ⟨rfl, -⟩ := hv
  have hx := B.exec
  have hb := B.bytes
  have hr := B.returns
  have hts := atoms_spec (ws := wsX1_isWorth) B.pre
  have hown : s.vm.findClass RX1 = some m.cls := findClass_of_methodNamed B.named
  have hlocks := B.notSynchronized
  have hl := lv_entry ([.int w]) (n := 1) (Nat.le_of_ble_eq_true rfl)
  rw [lg_entry_eq]
  generalize (lg_sl ([.int w]) ++ List.replicate (1 - (lg_sl ([.int w])).length) Slot.unset).toArray = ls at hl ⊢
  have hl : lv_has ls 1 [(0, .int w)] := hl
  refine lv_iload_n hx hb dX1_isWorth_0 rfl (lv_at hl 0 rfl) ?_
  refine lv_sipush (v := (-500)) hx hb dX1_isWorth_1 (by decide) ?_
  refine lv_icmp_lt (tgt := 18) hx hb dX1_isWorth_4 (by decide) (fun h4 => ?_) (fun h4 => ?_)
  · refine lv_iconst (v := 0) hx hb dX1_isWorth_18 (by decide) ?_
    exact W.zret (v := 0) hx hb hr (by decide) (fun t ht hW => ⟨by rw [iw, if_pos h4], ht⟩) (fun _ h => nomatch h) dX1_isWorth_19
  · refine lv_iload_n hx hb dX1_isWorth_7 rfl (lv_at hl 0 rfl) ?_
    refine lv_sipush (v := 500) hx hb dX1_isWorth_8 (by decide) ?_
    refine lv_icmp_gt (tgt := 18) hx hb dX1_isWorth_11 (by decide) (fun h11 => ?_) (fun h11 => ?_)
    · refine lv_iconst (v := 0) hx hb dX1_isWorth_18 (by decide) ?_
      exact W.zret (v := 0) hx hb hr (by decide) (fun t ht hW => ⟨by rw [iw, if_neg h4, if_pos h11], ht⟩) (fun _ h => nomatch h) dX1_isWorth_19
    · refine lv_iconst (v := 1) hx hb dX1_isWorth_14 (by decide) ?_
      refine lv_goto (tgt := 19) hx hb dX1_isWorth_15 (by decide) ?_
      exact W.zret (v := 1) hx hb hr (by decide) (fun t ht hW => ⟨by rw [iw, if_neg h4, if_neg h11], ht⟩) (fun _ h => nomatch h) dX1_isWorth_19
set_option maxHeartbeats 4000000 in
set_option maxRecDepth 100000 in
/-- isNode -/
theorem kX1_isNode (l : Launch) (dC : Nat → ClassId) (dI : Nat → Nat → Nat) (cI cZ cA : ClassId) (a : Nat → Nat) (th : Nat) (n : Nat) (wv : Nat → Int32) (lo : Nat → Int32) (cf : Nat → Nat) (tf : Nat → Nat) (vs : Nat → Int32) (nr : Nat → Nat) (x : Int32)  : Met l yX1_isNode wsX1_isNode ({ frames := 0, cells := 0, slots := 0, locals := 0 }) (va_Pc [.ref (a 0), .int x] (RP dC dI (GT cI cZ cA) (MW cI cZ a th n wv lo cf tf vs nr))) (QcRead (isn x n)) 0 0 (fun _ => False) := by
  refine Met.ofW (cc := cX1_isNode) (maxL := 2) (ret := (some .boolean)) (by decide) rfl ?_
  intro p e s m args below meth c s₁ B hml hv
  obtain ⟨rfl, hP, hK⟩ := hv
  have hx := B.exec
  have hb := B.bytes
  have hr := B.returns
  have hts := atoms_spec (ws := wsX1_isNode) B.pre
  have hown : s.vm.findClass RX1 = some m.cls := findClass_of_methodNamed B.named
  have hlocks := B.notSynchronized
  have hf_33 := hts (.fieldLink RX1 33 "GraphSearchModel" "nodes" "I") (by decide +kernel)
  have hiw : ∀ w ∈ wsX10, w ∈ wsX1_isNode := by decide +kernel
  have hl := lv_entry ([.ref (a 0), .int x]) (n := 2) (Nat.le_of_ble_eq_true rfl)
  rw [lg_entry_eq]
  generalize (lg_sl ([.ref (a 0), .int x]) ++ List.replicate (2 - (lg_sl ([.ref (a 0), .int x])).length) Slot.unset).toArray = ls at hl ⊢
  have hl : lv_has ls 2 [(0, .ref (a 0)), (1, .int x)] := hl
  refine lv_iload_n hx hb dX1_isNode_0 rfl (lv_at hl 1 rfl) ?_
  refine lv_if_lt (tgt := 16) hx hb dX1_isNode_1 (by decide) (fun h1 => ?_) (fun h1 => ?_)
  · refine lv_iconst (v := 0) hx hb dX1_isNode_16 (by decide) ?_
    exact W.zret (v := 0) hx hb hr (by decide) (fun t ht hW => ⟨by rw [isn, if_pos h1], ht⟩) (fun _ h => nomatch h) dX1_isNode_17
  · refine lv_iload_n hx hb dX1_isNode_4 rfl (lv_at hl 1 rfl) ?_
    refine lv_aload_n hx hb dX1_isNode_5 rfl (lv_at hl 0 rfl) ?_
    refine va_get (D := (dC, dI)) (ci := 1) (v := .int (nI n)) (C := RX1) (T := TX1) (N := 8) hx hb hts hiw hown hK hP 0 rfl rfl 1 (by decide) hf_33 (fun _ h9 => h9) rfl dX1_isNode_6 ?_
    refine lv_icmp_ge (tgt := 16) hx hb dX1_isNode_9 (by decide) (fun h9 => ?_) (fun h9 => ?_)
    · refine lv_iconst (v := 0) hx hb dX1_isNode_16 (by decide) ?_
      exact W.zret (v := 0) hx hb hr (by decide) (fun t ht hW => ⟨by rw [isn, if_neg h1, if_pos h9], ht⟩) (fun _ h => nomatch h) dX1_isNode_17
    · refine lv_iconst (v := 1) hx hb dX1_isNode_12 (by decide) ?_
      refine lv_goto (tgt := 17) hx hb dX1_isNode_13 (by decide) ?_
      exact W.zret (v := 1) hx hb hr (by decide) (fun t ht hW => ⟨by rw [isn, if_neg h1, if_neg h9], ht⟩) (fun _ h => nomatch h) dX1_isNode_17
set_option maxHeartbeats 4000000 in
set_option maxRecDepth 100000 in
/-- behind -/
theorem kX1_behind (l : Launch) (v : Int32)  : Met l yX1_behind wsX1_behind ({ frames := 0, cells := 0, slots := 0, locals := 0 }) (va_Pc [.int v] (fun _ => True)) (QcRead (B32 v)) 0 0 (fun _ => False) := by
  refine Met.ofW (cc := cX1_behind) (maxL := 1) (ret := (some .int)) (by decide) rfl ?_
  intro p e s m args below meth c s₁ B hml hv
  obtain ⟨rfl, -⟩ := hv
  have hx := B.exec
  have hb := B.bytes
  have hr := B.returns
  have hts := atoms_spec (ws := wsX1_behind) B.pre
  have hown : s.vm.findClass RX1 = some m.cls := findClass_of_methodNamed B.named
  have hlocks := B.notSynchronized
  have hl := lv_entry ([.int v]) (n := 1) (Nat.le_of_ble_eq_true rfl)
  rw [lg_entry_eq]
  generalize (lg_sl ([.int v]) ++ List.replicate (1 - (lg_sl ([.int v])).length) Slot.unset).toArray = ls at hl ⊢
  have hl : lv_has ls 1 [(0, .int v)] := hl
  refine lv_iload_n hx hb dX1_behind_0 rfl (lv_at hl 0 rfl) ?_
  refine lv_ineg hx hb dX1_behind_1 ?_
  refine lv_sipush (v := (-900)) hx hb dX1_behind_2 (by decide) ?_
  refine lv_icmp_ge (tgt := 15) hx hb dX1_behind_5 (by decide) (fun h5 => ?_) (fun h5 => ?_)
  · refine lv_iload_n hx hb dX1_behind_15 rfl (lv_at hl 0 rfl) ?_
    refine lv_ineg hx hb dX1_behind_16 ?_
    refine lv_sipush (v := 900) hx hb dX1_behind_17 (by decide) ?_
    refine lv_icmp_le (tgt := 30) hx hb dX1_behind_20 (by decide) (fun h20 => ?_) (fun h20 => ?_)
    · refine lv_iload_n hx hb dX1_behind_30 rfl (lv_at hl 0 rfl) ?_
      refine lv_ineg hx hb dX1_behind_31 ?_
      exact W.iret (v := (-v)) hx hb hr (fun t ht hW => ⟨by rw [B32, if_pos h5, if_pos h20], ht⟩) (fun _ h => nomatch h) dX1_behind_32
    · refine lv_iload_n hx hb dX1_behind_23 rfl (lv_at hl 0 rfl) ?_
      refine lv_ineg hx hb dX1_behind_24 ?_
      refine lv_iconst (v := 1) hx hb dX1_behind_25 (by decide) ?_
      refine lv_isub hx hb dX1_behind_26 ?_
      refine lv_goto (tgt := 32) hx hb dX1_behind_27 (by decide) ?_
      exact W.iret (v := ((-v) - 1)) hx hb hr (fun t ht hW => ⟨by rw [B32, if_pos h5, if_neg h20], ht⟩) (fun _ h => nomatch h) dX1_behind_32
  · refine lv_iload_n hx hb dX1_behind_8 rfl (lv_at hl 0 rfl) ?_
    refine lv_ineg hx hb dX1_behind_9 ?_
    refine lv_iconst (v := 1) hx hb dX1_behind_10 (by decide) ?_
    refine lv_iadd hx hb dX1_behind_11 ?_
    refine lv_goto (tgt := 32) hx hb dX1_behind_12 (by decide) ?_
    exact W.iret (v := ((-v) + 1)) hx hb hr (fun t ht hW => ⟨by rw [B32, if_neg h5], ht⟩) (fun _ h => nomatch h) dX1_behind_32
set_option maxHeartbeats 4000000 in
set_option maxRecDepth 100000 in
/-- valueOf -/
theorem kX1_valueOf (l : Launch) (dC : Nat → ClassId) (dI : Nat → Nat → Nat) (cI cZ cA : ClassId) (a : Nat → Nat) (th : Nat) (n : Nat) (wv : Nat → Int32) (lo : Nat → Int32) (cf : Nat → Nat) (tf : Nat → Nat) (vs : Nat → Int32) (nr : Nat → Nat) (x d : Nat) (hd : d < 8) (hx4 : x < 400) : Met l yX1_valueOf wsX1_valueOf ({ frames := 0, cells := 0, slots := 0, locals := 0 }) (va_Pc [.ref (a 0), .int (nI x), .int (nI d)] (RP dC dI (GT cI cZ cA) (MW cI cZ a th n wv lo cf tf vs nr))) (QcRead (vs (400 * d + x))) 0 0 (fun _ => False) := by
  refine Met.ofW (cc := cX1_valueOf) (maxL := 3) (ret := (some .int)) (by decide) rfl ?_
  intro p e s m args below meth c s₁ B hml hv
  obtain ⟨rfl, hP, hK⟩ := hv
  have hx := B.exec
  have hb := B.bytes
  have hr := B.returns
  have hts := atoms_spec (ws := wsX1_valueOf) B.pre
  have hown : s.vm.findClass RX1 = some m.cls := findClass_of_methodNamed B.named
  have hlocks := B.notSynchronized
  have hf_23 := hts (.fieldLink RX1 23 "GraphSearchModel" "values" "[I") (by decide +kernel)
  have hiw : ∀ w ∈ wsX10, w ∈ wsX1_valueOf := by decide +kernel
  have hl := lv_entry ([.ref (a 0), .int (nI x), .int (nI d)]) (n := 3) (Nat.le_of_ble_eq_true rfl)
  rw [lg_entry_eq]
  generalize (lg_sl ([.ref (a 0), .int (nI x), .int (nI d)]) ++ List.replicate (3 - (lg_sl ([.ref (a 0), .int (nI x), .int (nI d)])).length) Slot.unset).toArray = ls at hl ⊢
  have hl : lv_has ls 3 [(0, .ref (a 0)), (1, .int (nI x)), (2, .int (nI d))] := hl
  refine lv_aload_n hx hb dX1_valueOf_0 rfl (lv_at hl 0 rfl) ?_
  refine va_get (D := (dC, dI)) (ci := 1) (v := .ref (a 5)) (C := RX1) (T := TX1) (N := 8) hx hb hts hiw hown hK hP 0 rfl rfl 6 (by decide) hf_23 (fun _ h9 => h9) rfl dX1_valueOf_1 ?_
  refine lv_sipush (v := 400) hx hb dX1_valueOf_4 (by decide) ?_
  refine lv_iload_n hx hb dX1_valueOf_7 rfl (lv_at hl 2 rfl) ?_
  refine lv_imul hx hb dX1_valueOf_8 ?_
  refine ga_is (y := nI (400 * d)) (by rw [show (400 : Int32) = nI 400 from rfl, pk_mul]) ?_
  refine lv_iload_n hx hb dX1_valueOf_9 rfl (lv_at hl 1 rfl) ?_
  refine lv_iadd hx hb dX1_valueOf_10 ?_
  refine ga_is (y := nI (400 * d + x)) (nI_add _ _) ?_
  refine ga_iald hx hb hK hP 5 0 rfl rfl (400 * d + x) (v := vs (400 * d + x)) rfl (by omega) (by decide) dX1_valueOf_11 ?_
  exact W.iret (v := (vs (400 * d + x))) hx hb hr (fun t ht hW => ⟨rfl, ht⟩) (fun _ h => nomatch h) dX1_valueOf_12
set_option maxHeartbeats 4000000 in
set_option maxRecDepth 100000 in
/-- given -/
theorem kX1_given (l : Launch) (dC : Nat → ClassId) (dI : Nat → Nat → Nat) (cI cZ cA : ClassId) (a : Nat → Nat) (th : Nat) (n : Nat) (wv : Nat → Int32) (lo : Nat → Int32) (cf : Nat → Nat) (tf : Nat → Nat) (vs : Nat → Int32) (nr : Nat → Nat) (x j d : Nat) (hd : d < 8) (hx6 : x * 6 + j < 2400) (ht : tf (x * 6 + j) < 400) : Met l yX1_given wsX1_given ({ frames := 1, cells := 0, slots := 0, locals := 20 }) (va_Pc [.ref (a 0), .int (nI x), .int (nI j), .int (nI (d + 1))] (RP dC dI (GT cI cZ cA) (MW cI cZ a th n wv lo cf tf vs nr))) (QcRead (gv tf (fun y => vs (400 * d + y)) x j)) 0 0 (fun _ => False) := by
  refine Met.ofW (cc := cX1_given) (maxL := 4) (ret := (some .int)) (by decide) rfl ?_
  intro p e s m args below meth c s₁ B hml hv
  obtain ⟨rfl, hP, hK⟩ := hv
  have hx := B.exec
  have hb := B.bytes
  have hr := B.returns
  have hts := atoms_spec (ws := wsX1_given) B.pre
  have hown : s.vm.findClass RX1 = some m.cls := findClass_of_methodNamed B.named
  have hlocks := B.notSynchronized
  have hf_23 := hts (.fieldLink RX1 23 "GraphSearchModel" "values" "[I") (by decide +kernel)
  have hf_20 := hts (.fieldLink RX1 20 "GraphSearchModel" "to" "[I") (by decide +kernel)
  have hiw : ∀ w ∈ wsX10, w ∈ wsX1_given := by decide +kernel
  have hl := lv_entry ([.ref (a 0), .int (nI x), .int (nI j), .int (nI (d + 1))]) (n := 4) (Nat.le_of_ble_eq_true rfl)
  rw [lg_entry_eq]
  generalize (lg_sl ([.ref (a 0), .int (nI x), .int (nI j), .int (nI (d + 1))]) ++ List.replicate (4 - (lg_sl ([.ref (a 0), .int (nI x), .int (nI j), .int (nI (d + 1))])).length) Slot.unset).toArray = ls at hl ⊢
  have hl : lv_has ls 4 [(0, .ref (a 0)), (1, .int (nI x)), (2, .int (nI j)), (3, .int (nI (d + 1)))] := hl
  refine lv_aload_n hx hb dX1_given_0 rfl (lv_at hl 0 rfl) ?_
  refine va_get (D := (dC, dI)) (ci := 1) (v := .ref (a 5)) (C := RX1) (T := TX1) (N := 8) hx hb hts hiw hown hK hP 0 rfl rfl 6 (by decide) hf_23 (fun _ h9 => h9) rfl dX1_given_1 ?_
  refine lv_sipush (v := 400) hx hb dX1_given_4 (by decide) ?_
  refine lv_iload_n hx hb dX1_given_7 rfl (lv_at hl 3 rfl) ?_
  refine lv_iconst (v := 1) hx hb dX1_given_8 (by decide) ?_
  refine lv_isub hx hb dX1_given_9 ?_
  refine ga_is (y := nI d) (nI_pred d) ?_
  refine lv_imul hx hb dX1_given_10 ?_
  refine ga_is (y := nI (400 * d)) (by rw [show (400 : Int32) = nI 400 from rfl, pk_mul]) ?_
  refine lv_aload_n hx hb dX1_given_11 rfl (lv_at hl 0 rfl) ?_
  refine va_get (D := (dC, dI)) (ci := 1) (v := .ref (a 4)) (C := RX1) (T := TX1) (N := 8) hx hb hts hiw hown hK hP 0 rfl rfl 5 (by decide) hf_20 (fun _ h9 => h9) rfl dX1_given_12 ?_
  refine lv_bipush (v := 6) hx hb dX1_given_15 (by decide) ?_
  refine lv_iload_n hx hb dX1_given_17 rfl (lv_at hl 1 rfl) ?_
  refine lv_imul hx hb dX1_given_18 ?_
  refine lv_iload_n hx hb dX1_given_19 rfl (lv_at hl 2 rfl) ?_
  refine lv_iadd hx hb dX1_given_20 ?_
  refine ga_is (y := nI (x * 6 + j)) (by rw [show (6 : Int32) = nI 6 from rfl, pk_mul, nI_add, Nat.mul_comm 6 x]) ?_
  refine ga_iald hx hb hK hP 4 0 rfl rfl (x * 6 + j) (v := nI (tf (x * 6 + j))) rfl (by omega) (by decide) dX1_given_21 ?_
  refine lv_iadd hx hb dX1_given_22 ?_
  refine ga_is (y := nI (400 * d + tf (x * 6 + j))) (nI_add _ _) ?_
  refine ga_iald hx hb hK hP 5 0 rfl rfl (400 * d + tf (x * 6 + j)) (v := vs (400 * d + tf (x * 6 + j))) rfl (by omega) (by decide) dX1_given_23 ?_
  refine W.callR (r := B32 (vs (400 * d + tf (x * 6 + j)))) (W.runS (As := [.int (vs (400 * d + tf (x * 6 + j)))]) (rest := []) ⟨hx, hb, hml, hown, hts⟩ (kX1_behind l (vs (400 * d + tf (x * 6 + j)))) (va_cwS 1 hts gX1_given_X1_behind rfl rfl rfl (by decide +kernel) ⟨Nat.le_of_ble_eq_true rfl, Nat.le_of_ble_eq_true rfl⟩) ⟨blindT, fun _ _ _ => ⟨rfl, trivial⟩⟩ rfl rfl hl.1 rfl (lv_room (Nat.le_of_ble_eq_true rfl)) dX1_given_24 ⟨Nat.zero_le _, Nat.zero_le _⟩) ?_
  refine W.eq (g2 := F0 m 27 ls [.int (B32 (vs (400 * d + tf (x * 6 + j))))]) rfl ?_
  exact W.iret (v := (B32 (vs (400 * d + tf (x * 6 + j))))) hx hb hr (fun t ht hW => ⟨rfl, ht⟩) (fun _ h => nomatch h) dX1_given_27
set_option maxHeartbeats 4000000 in
set_option maxRecDepth 100000 in
/-- greatest -/
theorem kX1_greatest (l : Launch) (dC : Nat → ClassId) (dI : Nat → Nat → Nat) (cI cZ cA : ClassId) (a : Nat → Nat) (th : Nat) (n : Nat) (wv : Nat → Int32) (lo : Nat → Int32) (cf : Nat → Nat) (tf : Nat → Nat) (vs : Nat → Int32) (nr : Nat → Nat) (x d : Nat) (hd : d < 8) (hx4 : x < 400) (hc : cf x ≤ 6) (hc0 : 0 < cf x) (ht : ∀ j, j < cf x → tf (x * 6 + j) < 400) : Met l yX1_greatest wsX1_greatest ({ frames := 2, cells := 0, slots := 0, locals := 43 }) (va_Pc [.ref (a 0), .int (nI x), .int (nI (d + 1))] (RP dC dI (GT cI cZ cA) (MW cI cZ a th n wv lo cf tf vs nr))) (QcRead (gm tf (fun y => vs (400 * d + y)) x (cf x - 1))) 0 0 (fun _ => False) := by
  refine Met.ofW (cc := cX1_greatest) (maxL := 5) (ret := (some .int)) (by decide) rfl ?_
  intro p e s m args below meth c s₁ B hml hv
  obtain ⟨rfl, hP, hK⟩ := hv
  have hx := B.exec
  have hb := B.bytes
  have hr := B.returns
  have hts := atoms_spec (ws := wsX1_greatest) B.pre
  have hown : s.vm.findClass RX1 = some m.cls := findClass_of_methodNamed B.named
  have hlocks := B.notSynchronized
  have hf_17 := hts (.fieldLink RX1 17 "GraphSearchModel" "many" "[I") (by decide +kernel)
  have hiw : ∀ w ∈ wsX10, w ∈ wsX1_greatest := by decide +kernel
  have hl := lv_entry ([.ref (a 0), .int (nI x), .int (nI (d + 1))]) (n := 5) (Nat.le_of_ble_eq_true rfl)
  rw [lg_entry_eq]
  generalize (lg_sl ([.ref (a 0), .int (nI x), .int (nI (d + 1))]) ++ List.replicate (5 - (lg_sl ([.ref (a 0), .int (nI x), .int (nI (d + 1))])).length) Slot.unset).toArray = ls at hl ⊢
  have hl : lv_has ls 5 [(0, .ref (a 0)), (1, .int (nI x)), (2, .int (nI (d + 1)))] := hl
  refine lv_aload_n hx hb dX1_greatest_0 rfl (lv_at hl 0 rfl) ?_
  refine lv_iload_n hx hb dX1_greatest_1 rfl (lv_at hl 1 rfl) ?_
  refine lv_iconst (v := 0) hx hb dX1_greatest_2 (by decide) ?_
  refine ga_is (y := nI 0) (rfl) ?_
  refine lv_iload_n hx hb dX1_greatest_3 rfl (lv_at hl 2 rfl) ?_
  refine W.callR (r := gv tf (fun y => vs (400 * d + y)) x 0) (W.runV (As := [.int (nI x), .int (nI 0), .int (nI (d + 1))]) (rest := []) ⟨hx, hb, hml, hown, hts⟩ (kX1_given l dC dI cI cZ cA a th n wv lo cf tf vs nr x 0 d hd (by omega) (ht 0 (by omega))) (cwV 3 hts gX1_greatest_X1_given rfl rfl rfl (by decide +kernel) ⟨Nat.le_of_ble_eq_true rfl, Nat.le_of_ble_eq_true rfl⟩) ⟨blindR, va_recv hK hP (ci := 1) (q0 := 0) rfl rfl, preR hP hK⟩ rfl rfl hl.1 rfl (lv_room (Nat.le_of_ble_eq_true rfl)) dX1_greatest_4 ⟨Nat.zero_le _, Nat.zero_le _⟩) ?_
  refine W.eq (g2 := F0 m 7 ls [.int (gv tf (fun y => vs (400 * d + y)) x 0)]) rfl ?_
  refine lv_istore_n (lv' := [(3, .int (gv tf (fun y => vs (400 * d + y)) x 0)), (0, .ref (a 0)), (1, .int (nI x)), (2, .int (nI (d + 1)))]) hx hb dX1_greatest_7 rfl hl (by decide) rfl (fun ls hl => ?_)
  refine lv_iconst (v := 1) hx hb dX1_greatest_8 (by decide) ?_
  refine ga_is (y := nI 1) (rfl) ?_
  refine lv_istore (lv' := [(4, .int (nI 1)), (3, .int (gv tf (fun y => vs (400 * d + y)) x 0)), (0, .ref (a 0)), (1, .int (nI x)), (2, .int (nI (d + 1)))]) hx hb dX1_greatest_9 hl (by decide) rfl (fun ls hl => ?_)
  have loop : ∀ (k j : Nat), j + k = cf x → 0 < j → ∀ ls : Array Slot, lv_has ls 5 [(4, .int (nI j)), (3, .int (gm tf (fun y => vs (400 * d + y)) x (j - 1))), (0, .ref (a 0)), (1, .int (nI x)), (2, .int (nI (d + 1)))] → W p l e (headSpec wsX1_greatest (({ frames := 2, cells := 0, slots := 0, locals := 43 }) : Room)).room s m ([.ref (a 0), .int (nI x), .int (nI (d + 1))] : List Value).toArray below meth c s.heap [] 0 0 (MQ below (QcRead (gm tf (fun y => vs (400 * d + y)) x (cf x - 1))) ([.ref (a 0), .int (nI x), .int (nI (d + 1))] : List Value).toArray s 0 0 (fun _ => False)) (F0 m 11 ls []) := by
    intro k
    induction k with
    | zero =>
      intro j hj h0 ls hl
      obtain rfl : j = cf x := by omega
      refine lv_iload hx hb dX1_greatest_11 (lv_at hl 0 rfl) ?_
      refine lv_aload_n hx hb dX1_greatest_13 rfl (lv_at hl 2 rfl) ?_
      refine va_get (D := (dC, dI)) (ci := 1) (v := .ref (a 3)) (C := RX1) (T := TX1) (N := 8) hx hb hts hiw hown hK hP 0 rfl rfl 4 (by decide) hf_17 (fun _ h9 => h9) rfl dX1_greatest_14 ?_
      refine lv_iload_n hx hb dX1_greatest_17 rfl (lv_at hl 3 rfl) ?_
      refine ga_iald hx hb hK hP 3 0 rfl rfl x (v := nI (cf x)) rfl (by omega) (by decide) dX1_greatest_18 ?_
      refine lv_icmp_ge (tgt := 53) hx hb dX1_greatest_19 (by decide) (fun h19 => ?_) (fun h19 => absurd (Int32.le_refl _) h19)
      refine lv_iload_n hx hb dX1_greatest_53 rfl (lv_at hl 1 rfl) ?_
      exact W.iret (v := (gm tf (fun y => vs (400 * d + y)) x (cf x - 1))) hx hb hr (fun t ht hW => ⟨rfl, ht⟩) (fun _ h => nomatch h) dX1_greatest_54
    | succ k ih =>
      intro j hj h0 ls hl
      refine lv_iload hx hb dX1_greatest_11 (lv_at hl 0 rfl) ?_
      refine lv_aload_n hx hb dX1_greatest_13 rfl (lv_at hl 2 rfl) ?_
      refine va_get (D := (dC, dI)) (ci := 1) (v := .ref (a 3)) (C := RX1) (T := TX1) (N := 8) hx hb hts hiw hown hK hP 0 rfl rfl 4 (by decide) hf_17 (fun _ h9 => h9) rfl dX1_greatest_14 ?_
      refine lv_iload_n hx hb dX1_greatest_17 rfl (lv_at hl 3 rfl) ?_
      refine ga_iald hx hb hK hP 3 0 rfl rfl x (v := nI (cf x)) rfl (by omega) (by decide) dX1_greatest_18 ?_
      refine lv_icmp_ge (tgt := 53) hx hb dX1_greatest_19 (by decide) (fun h19 => absurd h19 (nI_ge (by omega) (by omega))) (fun h19 => ?_)
      refine lv_aload_n hx hb dX1_greatest_22 rfl (lv_at hl 2 rfl) ?_
      refine lv_iload_n hx hb dX1_greatest_23 rfl (lv_at hl 3 rfl) ?_
      refine lv_iload hx hb dX1_greatest_24 (lv_at hl 0 rfl) ?_
      refine lv_iload_n hx hb dX1_greatest_26 rfl (lv_at hl 4 rfl) ?_
      refine W.callR (r := gv tf (fun y => vs (400 * d + y)) x j) (W.runV (As := [.int (nI x), .int (nI j), .int (nI (d + 1))]) (rest := []) ⟨hx, hb, hml, hown, hts⟩ (kX1_given l dC dI cI cZ cA a th n wv lo cf tf vs nr x j d hd (by omega) (ht j (by omega))) (cwV 3 hts gX1_greatest_X1_given rfl rfl rfl (by decide +kernel) ⟨Nat.le_of_ble_eq_true rfl, Nat.le_of_ble_eq_true rfl⟩) ⟨blindR, va_recv hK hP (ci := 1) (q0 := 0) rfl rfl, preR hP hK⟩ rfl rfl hl.1 rfl (lv_room (Nat.le_of_ble_eq_true rfl)) dX1_greatest_27 ⟨Nat.zero_le _, Nat.zero_le _⟩) ?_
      refine W.eq (g2 := F0 m 30 ls [.int (gv tf (fun y => vs (400 * d + y)) x j)]) rfl ?_
      refine lv_iload_n hx hb dX1_greatest_30 rfl (lv_at hl 1 rfl) ?_
      refine lv_icmp_le (tgt := 45) hx hb dX1_greatest_31 (by decide) (fun h31 => ?_) (fun h31 => ?_)
      · refine lv_iload_n hx hb dX1_greatest_45 rfl (lv_at hl 1 rfl) ?_
        refine ga_is (y := gm tf (fun y => vs (400 * d + y)) x (j + 1 - 1)) (by rw [show j + 1 - 1 = (j - 1) + 1 by omega]; show _ = mx (gm tf (fun y => vs (400 * d + y)) x (j - 1)) (gv tf (fun y => vs (400 * d + y)) x (j - 1 + 1)); rw [show j - 1 + 1 = j by omega, mx, if_neg (fun q => by rw [Int32.lt_iff_toInt_lt] at q; rw [Int32.le_iff_toInt_le] at h31; omega)]) ?_
        refine lv_istore_n (lv' := [(3, .int (gm tf (fun y => vs (400 * d + y)) x (j + 1 - 1))), (4, .int (nI j)), (0, .ref (a 0)), (1, .int (nI x)), (2, .int (nI (d + 1)))]) hx hb dX1_greatest_46 rfl hl (by decide) rfl (fun ls hl => ?_)
        refine lv_iinc (v := nI (j + 1)) (lv' := [(4, .int (nI (j + 1))), (3, .int (gm tf (fun y => vs (400 * d + y)) x (j + 1 - 1))), (0, .ref (a 0)), (1, .int (nI x)), (2, .int (nI (d + 1)))]) hx hb dX1_greatest_47 hl (k := 1) rfl (nI_1 j) (by decide) rfl (fun ls hl => ?_)
        refine lv_goto (tgt := 11) hx hb dX1_greatest_50 (by decide) ?_
        exact ih (j + 1) (by omega) (by omega) ls (lv_sub hl [0, 1, 2, 3, 4] rfl)
      · refine lv_aload_n hx hb dX1_greatest_34 rfl (lv_at hl 2 rfl) ?_
        refine lv_iload_n hx hb dX1_greatest_35 rfl (lv_at hl 3 rfl) ?_
        refine lv_iload hx hb dX1_greatest_36 (lv_at hl 0 rfl) ?_
        refine lv_iload_n hx hb dX1_greatest_38 rfl (lv_at hl 4 rfl) ?_
        refine W.callR (r := gv tf (fun y => vs (400 * d + y)) x j) (W.runV (As := [.int (nI x), .int (nI j), .int (nI (d + 1))]) (rest := []) ⟨hx, hb, hml, hown, hts⟩ (kX1_given l dC dI cI cZ cA a th n wv lo cf tf vs nr x j d hd (by omega) (ht j (by omega))) (cwV 3 hts gX1_greatest_X1_given rfl rfl rfl (by decide +kernel) ⟨Nat.le_of_ble_eq_true rfl, Nat.le_of_ble_eq_true rfl⟩) ⟨blindR, va_recv hK hP (ci := 1) (q0 := 0) rfl rfl, preR hP hK⟩ rfl rfl hl.1 rfl (lv_room (Nat.le_of_ble_eq_true rfl)) dX1_greatest_39 ⟨Nat.zero_le _, Nat.zero_le _⟩) ?_
        refine W.eq (g2 := F0 m 42 ls [.int (gv tf (fun y => vs (400 * d + y)) x j)]) rfl ?_
        refine lv_goto (tgt := 46) hx hb dX1_greatest_42 (by decide) ?_
        refine ga_is (y := gm tf (fun y => vs (400 * d + y)) x (j + 1 - 1)) (by rw [show j + 1 - 1 = (j - 1) + 1 by omega]; show _ = mx (gm tf (fun y => vs (400 * d + y)) x (j - 1)) (gv tf (fun y => vs (400 * d + y)) x (j - 1 + 1)); rw [show j - 1 + 1 = j by omega, mx, if_pos (i32_nle h31)]) ?_
        refine lv_istore_n (lv' := [(3, .int (gm tf (fun y => vs (400 * d + y)) x (j + 1 - 1))), (4, .int (nI j)), (0, .ref (a 0)), (1, .int (nI x)), (2, .int (nI (d + 1)))]) hx hb dX1_greatest_46 rfl hl (by decide) rfl (fun ls hl => ?_)
        refine lv_iinc (v := nI (j + 1)) (lv' := [(4, .int (nI (j + 1))), (3, .int (gm tf (fun y => vs (400 * d + y)) x (j + 1 - 1))), (0, .ref (a 0)), (1, .int (nI x)), (2, .int (nI (d + 1)))]) hx hb dX1_greatest_47 hl (k := 1) rfl (nI_1 j) (by decide) rfl (fun ls hl => ?_)
        refine lv_goto (tgt := 11) hx hb dX1_greatest_50 (by decide) ?_
        exact ih (j + 1) (by omega) (by omega) ls (lv_sub hl [0, 1, 2, 3, 4] rfl)
  exact loop (cf x - 1) 1 (by omega) (by omega) ls (lv_sub hl [0, 1, 2, 3, 4] rfl)
/-- the values of the model, by depth -/
def rw_ (vs : Nat → Int32) : Nat → Nat → Int32 := fun d y => vs (400 * d + y)
set_option maxHeartbeats 4000000 in
set_option maxRecDepth 100000 in
/-- bestOf -/
theorem kX1_bestOf (l : Launch) (dC : Nat → ClassId) (dI : Nat → Nat → Nat) (cI cZ cA : ClassId) (a : Nat → Nat) (th : Nat) (n : Nat) (wv : Nat → Int32) (lo : Nat → Int32) (cf : Nat → Nat) (tf : Nat → Nat) (vs : Nat → Int32) (nr : Nat → Nat) (x d : Nat) (hd : d < 8) (hx4 : x < 400) (hc : cf x ≤ 6) (ht : ∀ j, j < cf x → tf (x * 6 + j) < 400) : Met l yX1_bestOf wsX1_bestOf ({ frames := 2, cells := 0, slots := 0, locals := 43 }) (va_Pc [.ref (a 0), .int (nI x), .int (nI d)] (RP dC dI (GT cI cZ cA) (MW cI cZ a th n wv lo cf tf vs nr))) (QcRead (bm cf tf (rw_ vs) x d)) 0 0 (fun _ => False) := by
  refine Met.ofW (cc := cX1_bestOf) (maxL := 4) (ret := (some .int)) (by decide) rfl ?_
  intro p e s m args below meth c s₁ B hml hv
  obtain ⟨rfl, hP, hK⟩ := hv
  have hx := B.exec
  have hb := B.bytes
  have hr := B.returns
  have hts := atoms_spec (ws := wsX1_bestOf) B.pre
  have hown : s.vm.findClass RX1 = some m.cls := findClass_of_methodNamed B.named
  have hlocks := B.notSynchronized
  have hf_17 := hts (.fieldLink RX1 17 "GraphSearchModel" "many" "[I") (by decide +kernel)
  have hiw : ∀ w ∈ wsX10, w ∈ wsX1_bestOf := by decide +kernel
  have hl := lv_entry ([.ref (a 0), .int (nI x), .int (nI d)]) (n := 4) (Nat.le_of_ble_eq_true rfl)
  rw [lg_entry_eq]
  generalize (lg_sl ([.ref (a 0), .int (nI x), .int (nI d)]) ++ List.replicate (4 - (lg_sl ([.ref (a 0), .int (nI x), .int (nI d)])).length) Slot.unset).toArray = ls at hl ⊢
  have hl : lv_has ls 4 [(0, .ref (a 0)), (1, .int (nI x)), (2, .int (nI d))] := hl
  refine lv_iconst (v := 0) hx hb dX1_bestOf_0 (by decide) ?_
  refine ga_is (y := nI 0) (rfl) ?_
  refine lv_istore_n (lv' := [(3, .int (nI 0)), (0, .ref (a 0)), (1, .int (nI x)), (2, .int (nI d))]) hx hb dX1_bestOf_1 rfl hl (by decide) rfl (fun ls hl => ?_)
  cases d with
  | zero =>
    refine lv_iload_n hx hb dX1_bestOf_2 rfl (lv_at hl 0 rfl) ?_
    refine lv_aload_n hx hb dX1_bestOf_3 rfl (lv_at hl 1 rfl) ?_
    refine va_get (D := (dC, dI)) (ci := 1) (v := .ref (a 3)) (C := RX1) (T := TX1) (N := 8) hx hb hts hiw hown hK hP 0 rfl rfl 4 (by decide) hf_17 (fun _ h9 => h9) rfl dX1_bestOf_4 ?_
    refine lv_iload_n hx hb dX1_bestOf_7 rfl (lv_at hl 2 rfl) ?_
    refine ga_iald hx hb hK hP 3 0 rfl rfl x (v := nI (cf x)) rfl (by omega) (by decide) dX1_bestOf_8 ?_
    refine lv_icmp_ge (tgt := 40) hx hb dX1_bestOf_9 (by decide) (fun h9 => ?_) (fun h9 => ?_)
    · refine lv_iconst (v := (-1)) hx hb dX1_bestOf_40 (by decide) ?_
      exact W.iret (v := (-1)) hx hb hr (fun t ht hW => ⟨rfl, ht⟩) (fun _ h => nomatch h) dX1_bestOf_41
    · refine lv_iload_n hx hb dX1_bestOf_12 rfl (lv_at hl 3 rfl) ?_
      refine lv_if_le (tgt := 40) hx hb dX1_bestOf_13 (by decide) (fun h13 => ?_) (fun h13 => absurd (show nI 0 ≤ 0 from Int32.le_refl _) h13)
      refine lv_iconst (v := (-1)) hx hb dX1_bestOf_40 (by decide) ?_
      exact W.iret (v := (-1)) hx hb hr (fun t ht hW => ⟨rfl, ht⟩) (fun _ h => nomatch h) dX1_bestOf_41
  | succ d =>
    have loop : ∀ (k j : Nat), j + k = cf x → ∀ ls : Array Slot, lv_has ls 4 [(3, .int (nI j)), (0, .ref (a 0)), (1, .int (nI x)), (2, .int (nI (d + 1)))] → W p l e (headSpec wsX1_bestOf (({ frames := 2, cells := 0, slots := 0, locals := 43 }) : Room)).room s m ([.ref (a 0), .int (nI x), .int (nI (d + 1))] : List Value).toArray below meth c s.heap [] 0 0 (MQ below (QcRead (fst_ (gv tf (rw_ vs d) x) (rw_ vs (d + 1) x) k j)) ([.ref (a 0), .int (nI x), .int (nI (d + 1))] : List Value).toArray s 0 0 (fun _ => False)) (F0 m 2 ls []) := by
      intro k
      induction k with
      | zero =>
        intro j hj ls hl
        obtain rfl : j = cf x := by omega
        refine lv_iload_n hx hb dX1_bestOf_2 rfl (lv_at hl 0 rfl) ?_
        refine lv_aload_n hx hb dX1_bestOf_3 rfl (lv_at hl 1 rfl) ?_
        refine va_get (D := (dC, dI)) (ci := 1) (v := .ref (a 3)) (C := RX1) (T := TX1) (N := 8) hx hb hts hiw hown hK hP 0 rfl rfl 4 (by decide) hf_17 (fun _ h9 => h9) rfl dX1_bestOf_4 ?_
        refine lv_iload_n hx hb dX1_bestOf_7 rfl (lv_at hl 2 rfl) ?_
        refine ga_iald hx hb hK hP 3 0 rfl rfl x (v := nI (cf x)) rfl (by omega) (by decide) dX1_bestOf_8 ?_
        refine lv_icmp_ge (tgt := 40) hx hb dX1_bestOf_9 (by decide) (fun h9 => ?_) (fun h9 => absurd (Int32.le_refl _) h9)
        refine lv_iconst (v := (-1)) hx hb dX1_bestOf_40 (by decide) ?_
        exact W.iret (v := (-1)) hx hb hr (fun t ht hW => ⟨rfl, ht⟩) (fun _ h => nomatch h) dX1_bestOf_41
      | succ k ih =>
        intro j hj ls hl
        refine lv_iload_n hx hb dX1_bestOf_2 rfl (lv_at hl 0 rfl) ?_
        refine lv_aload_n hx hb dX1_bestOf_3 rfl (lv_at hl 1 rfl) ?_
        refine va_get (D := (dC, dI)) (ci := 1) (v := .ref (a 3)) (C := RX1) (T := TX1) (N := 8) hx hb hts hiw hown hK hP 0 rfl rfl 4 (by decide) hf_17 (fun _ h9 => h9) rfl dX1_bestOf_4 ?_
        refine lv_iload_n hx hb dX1_bestOf_7 rfl (lv_at hl 2 rfl) ?_
        refine ga_iald hx hb hK hP 3 0 rfl rfl x (v := nI (cf x)) rfl (by omega) (by decide) dX1_bestOf_8 ?_
        refine lv_icmp_ge (tgt := 40) hx hb dX1_bestOf_9 (by decide) (fun h9 => absurd h9 (nI_ge (by omega) (by omega))) (fun h9 => ?_)
        refine lv_iload_n hx hb dX1_bestOf_12 rfl (lv_at hl 3 rfl) ?_
        refine lv_if_le (tgt := 40) hx hb dX1_bestOf_13 (by decide) (fun h13 => absurd h13 (nI_nle (by omega) (by omega))) (fun h13 => ?_)
        refine lv_aload_n hx hb dX1_bestOf_16 rfl (lv_at hl 1 rfl) ?_
        refine lv_iload_n hx hb dX1_bestOf_17 rfl (lv_at hl 2 rfl) ?_
        refine lv_iload_n hx hb dX1_bestOf_18 rfl (lv_at hl 0 rfl) ?_
        refine lv_iload_n hx hb dX1_bestOf_19 rfl (lv_at hl 3 rfl) ?_
        refine W.callR (r := gv tf (rw_ vs d) x j) (W.runV (As := [.int (nI x), .int (nI j), .int (nI (d + 1))]) (rest := []) ⟨hx, hb, hml, hown, hts⟩ (kX1_given l dC dI cI cZ cA a th n wv lo cf tf vs nr x j d (by omega) (by omega) (ht j (by omega))) (cwV 3 hts gX1_bestOf_X1_given rfl rfl rfl (by decide +kernel) ⟨Nat.le_of_ble_eq_true rfl, Nat.le_of_ble_eq_true rfl⟩) ⟨blindR, va_recv hK hP (ci := 1) (q0 := 0) rfl rfl, preR hP hK⟩ rfl rfl hl.1 rfl (lv_room (Nat.le_of_ble_eq_true rfl)) dX1_bestOf_20 ⟨Nat.zero_le _, Nat.zero_le _⟩) ?_
        refine W.eq (g2 := F0 m 23 ls [.int (gv tf (rw_ vs d) x j)]) rfl ?_
        refine lv_aload_n hx hb dX1_bestOf_23 rfl (lv_at hl 1 rfl) ?_
        refine lv_iload_n hx hb dX1_bestOf_24 rfl (lv_at hl 2 rfl) ?_
        refine lv_iload_n hx hb dX1_bestOf_25 rfl (lv_at hl 3 rfl) ?_
        refine W.callR (r := rw_ vs (d + 1) x) (W.runV (As := [.int (nI x), .int (nI (d + 1))]) (rest := [.int (gv tf (rw_ vs d) x j)]) ⟨hx, hb, hml, hown, hts⟩ (kX1_valueOf l dC dI cI cZ cA a th n wv lo cf tf vs nr x (d + 1) hd hx4) (cwV 2 hts gX1_bestOf_X1_valueOf rfl rfl rfl (by decide +kernel) ⟨Nat.le_of_ble_eq_true rfl, Nat.le_of_ble_eq_true rfl⟩) ⟨blindR, va_recv hK hP (ci := 1) (q0 := 0) rfl rfl, preR hP hK⟩ rfl rfl hl.1 rfl (lv_room (Nat.le_of_ble_eq_true rfl)) dX1_bestOf_26 ⟨Nat.zero_le _, Nat.zero_le _⟩) ?_
        refine W.eq (g2 := F0 m 29 ls [.int (rw_ vs (d + 1) x), .int (gv tf (rw_ vs d) x j)]) rfl ?_
        refine lv_icmp_ne (tgt := 34) hx hb dX1_bestOf_29 (by decide) (fun h29 => ?_) (fun h29 => ?_)
        · show W p l e _ s m _ below meth c s.heap [] 0 0 (MQ below (QcRead (if gv tf (rw_ vs d) x j = rw_ vs (d + 1) x then nI j else fst_ (gv tf (rw_ vs d) x) (rw_ vs (d + 1) x) k (j + 1))) _ s 0 0 (fun _ => False)) _
          rw [if_neg h29]
          refine lv_iinc (v := nI (j + 1)) (lv' := [(3, .int (nI (j + 1))), (0, .ref (a 0)), (1, .int (nI x)), (2, .int (nI (d + 1)))]) hx hb dX1_bestOf_34 hl (k := 0) rfl (nI_1 j) (by decide) rfl (fun ls hl => ?_)
          refine lv_goto (tgt := 2) hx hb dX1_bestOf_37 (by decide) ?_
          exact ih (j + 1) (by omega) ls (lv_sub hl [0, 1, 2, 3] rfl)
        · refine lv_iload_n hx hb dX1_bestOf_32 rfl (lv_at hl 0 rfl) ?_
          exact W.iret (v := (nI j)) hx hb hr (fun t ht hW => ⟨by rw [fst_, if_pos h29], ht⟩) (fun _ h => nomatch h) dX1_bestOf_33
    exact loop (cf x) 0 (by omega) ls (lv_sub hl [0, 1, 2, 3] rfl)
