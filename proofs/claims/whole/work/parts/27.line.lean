def tie (cf tf : Nat → Nat) (V : Nat → Nat → Int32) (x : Nat) : Nat → Nat
  | 0 => 0
  | d + 1 => cnt_ (gv tf (V d) x) (V (d + 1) x) (cf x)
set_option maxHeartbeats 4000000 in
set_option maxRecDepth 100000 in
/-- ties -/
theorem kX0_ties (l : Launch) (dC : Nat → ClassId) (dI : Nat → Nat → Nat) (cI cZ cA : ClassId) (a : Nat → Nat) (sz : Nat) (n : Nat) (am : Nat) (rf : Nat) (mk : Nat) (wv : Nat → Int32) (lo : Nat → Int32) (cf : Nat → Nat) (tf : Nat → Nat) (T : Nat → Nat → Int32) (mt : Nat → Nat) (im : Nat → Int32) (j d : Nat)  (hd : d < 8) (hG : Gok n wv lo cf tf) (hT : Tok n wv lo cf tf rf T) (hj : j < n)  : Met l yX0_ties wsX0_ties ({ frames := 7, cells := 0, slots := 0, locals := 112 }) (va_Pc [.ref (a 0), .int (nI j), .int (nI d)] (WP dC dI (GT cI cZ cA) (XW cI cZ cA a n am rf mk wv lo cf tf T mt im) sz)) (va_Qi (fun r (u : Nat × (Nat → Nat → Int32)) => r = nI (tie cf tf (vv wv lo cf tf) j d) ∧ Tok n wv lo cf tf u.1 u.2) (fun u => WQ dC dI (GT cI cZ cA) (va_A (XW cI cZ cA a n am rf mk wv lo cf tf T mt im) sz) (XW cI cZ cA a n am (u.1) mk wv lo cf tf (u.2) mt im)) (va_A (XW cI cZ cA a n am rf mk wv lo cf tf T mt im) sz)) 0 0 (va_A (XW cI cZ cA a n am rf mk wv lo cf tf T mt im) sz) := by
  refine Met.ofW (cc := cX0_ties) (maxL := 5) (ret := (some .int)) (by decide) rfl ?_
  intro p e s m args below meth c s₁ B hml hv
  obtain ⟨rfl, hsz, hP, hK, hD0⟩ := hv
  have hx := B.exec
  have hb := B.bytes
  have hr := B.returns
  have hts := atoms_spec (ws := wsX0_ties) B.pre
  have hown : s.vm.findClass RX0 = some m.cls := findClass_of_methodNamed B.named
  have hlocks := B.notSynchronized
  have hf_17 := hts (.fieldLink RX0 17 "GraphSearch" "moveCounts" "[I") (by decide +kernel)
  have hf_32 := hts (.fieldLink RX0 32 "GraphSearch" "table" "[[I") (by decide +kernel)
  have hiw : ∀ w ∈ wsX00, w ∈ wsX0_ties := by decide +kernel
  subst hsz
  have hD := hD0.self (sz := s.heap.size)
  generalize hAe : va_A (XW cI cZ cA a n am rf mk wv lo cf tf T mt im) s.heap.size = A at hD ⊢
  have hA : ∀ q : Nat, s.heap.size ≤ q → A q := fun q h => by rw [← hAe]; exact Or.inr h
  have hS : va_S A s.heap s.heap [] := va_S.rf
  have hP : va_P (dC, dI) vwCl (XW cI cZ cA a n am rf mk wv lo cf tf T mt im) s.heap := hP
  have hl := lv_entry ([.ref (a 0), .int (nI j), .int (nI d)]) (n := 5) (Nat.le_of_ble_eq_true rfl)
  rw [lg_entry_eq]
  generalize (lg_sl ([.ref (a 0), .int (nI j), .int (nI d)]) ++ List.replicate (5 - (lg_sl ([.ref (a 0), .int (nI j), .int (nI d)])).length) Slot.unset).toArray = ls at hl ⊢
  have hl : lv_has ls 5 [(0, .ref (a 0)), (1, .int (nI j)), (2, .int (nI d))] := hl
  obtain ⟨hn4, hwr, hc, htt, hlo, hz0⟩ := id hG
  obtain ⟨hr8, hrv⟩ := id hT
  have hcj := hc j hj
  refine lv_aload_n hx hb dX0_ties_0 rfl (lv_at hl 0 rfl) ?_
  refine lv_iload_n hx hb dX0_ties_1 rfl (lv_at hl 1 rfl) ?_
  refine lv_iload_n hx hb dX0_ties_2 rfl (lv_at hl 2 rfl) ?_
  refine va_csv (W.runV (As := [.int (nI j), .int (nI d)]) (rest := []) ⟨hx, hb, hml, hown, hts⟩ (kX0_refuse l dC dI cI cZ cA a n am rf mk wv lo cf tf T mt im j d hn4 hj hd) (cwV 2 hts gX0_ties_X0_refuseWrongQuestion rfl rfl rfl (by decide +kernel) ⟨Nat.le_of_ble_eq_true rfl, Nat.le_of_ble_eq_true rfl⟩) ⟨blindR, va_recv hK hP (ci := 0) (q0 := 0) rfl rfl, preR hP hK⟩ rfl rfl hl.1 rfl (lv_room (Nat.le_of_ble_eq_true rfl)) dX0_ties_3 ⟨Nat.zero_le _, Nat.zero_le _⟩) (fun _ => ?_)
  refine W.eq (g2 := F0 m 6 ls []) rfl ?_
  refine lv_iload_n hx hb dX0_ties_6 rfl (lv_at hl 2 rfl) ?_
  refine lv_if_ne (tgt := 12) hx hb dX0_ties_7 (by decide) (fun h7 => ?_) (fun h7 => ?_)
  · obtain ⟨d, rfl⟩ : ∃ k, d = k + 1 := Nat.exists_eq_succ_of_ne_zero (fun z => h7 (by rw [z]; rfl))
    refine lv_aload_n hx hb dX0_ties_12 rfl (lv_at hl 0 rfl) ?_
    refine lv_iload_n hx hb dX0_ties_13 rfl (lv_at hl 2 rfl) ?_
    have hF := freeAll hD hS hA
    refine va_callv (va_runV (As := [.int (nI (d + 1))]) (rest := []) ⟨hx, hb, hml, hown, hts⟩ (kX0_deepenTo l dC dI cI cZ cA a s.heap.size n am rf mk wv lo cf tf T mt im (d + 1) hd hG hr8 hrv) (cwV 1 hts gX0_ties_X0_deepenTo rfl rfl rfl (by decide +kernel) ⟨Nat.le_of_ble_eq_true rfl, Nat.le_of_ble_eq_true rfl⟩) ⟨blindW, va_recv hK hP (ci := 0) (q0 := 0) rfl rfl, preW hP hK hD⟩ rfl rfl hl.1 rfl (lv_room (Nat.le_of_ble_eq_true rfl)) dX0_ties_14 ⟨Nat.zero_le _, Nat.zero_le _⟩) hS (fun q _ h => hF q h) hF (fun u tS H1 locs htS hvm hw hB hz1 hk1 hS => ?_)
    obtain ⟨r1, T1⟩ := u
    obtain ⟨hr1, hr18, hv1⟩ : d + 1 < r1 ∧ r1 ≤ 8 ∧ ∀ e, e < r1 → ∀ x, x < n → T1 e x = vv wv lo cf tf e x := hw
    obtain ⟨hP1, hK1, hD1⟩ := hB
    rw [htS] at hP1
    have hP : va_P (dC, dI) vwCl (XW cI cZ cA a n am r1 mk wv lo cf tf T1 mt im) H1 := hP1
    have hD : va_D A (XW cI cZ cA a n am r1 mk wv lo cf tf T1 mt im) := hD1.weaken (fun _ _ _ h => hF _ h)
    generalize H1 = H at hP hS ⊢
    refine W.eq (g2 := F0 m 17 ls []) rfl ?_
    refine lv_iconst (v := 0) hx hb dX0_ties_17 (by decide) ?_
    refine ga_is (y := nI 0) (rfl) ?_
    refine lv_istore_n (lv' := [(3, .int (nI 0)), (0, .ref (a 0)), (1, .int (nI j)), (2, .int (nI (d + 1)))]) hx hb dX0_ties_18 rfl hl (by decide) rfl (fun ls hl => ?_)
    refine lv_iconst (v := 0) hx hb dX0_ties_19 (by decide) ?_
    refine ga_is (y := nI 0) (rfl) ?_
    refine lv_istore (lv' := [(4, .int (nI 0)), (3, .int (nI 0)), (0, .ref (a 0)), (1, .int (nI j)), (2, .int (nI (d + 1)))]) hx hb dX0_ties_20 hl (by decide) rfl (fun ls hl => ?_)
    have loop : ∀ k i : Nat, i + k = cf j → ∀ ls : Array Slot, lv_has ls 5 [(4, .int (nI i)), (3, .int (nI (cnt_ (gv tf (T1 d) j) (T1 (d + 1) j) i))), (0, .ref (a 0)), (1, .int (nI j)), (2, .int (nI (d + 1)))] → W p l e (headSpec wsX0_ties (({ frames := 7, cells := 0, slots := 0, locals := 112 }) : Room)).room s m ([.ref (a 0), .int (nI j), .int (nI (d + 1))] : List Value).toArray below meth c H locs 0 0 (MQ below (va_Qi (fun r (u : Nat × (Nat → Nat → Int32)) => r = nI (tie cf tf (vv wv lo cf tf) j (d + 1)) ∧ Tok n wv lo cf tf u.1 u.2) (fun u => WQ dC dI (GT cI cZ cA) A (XW cI cZ cA a n am (u.1) mk wv lo cf tf (u.2) mt im)) A) ([.ref (a 0), .int (nI j), .int (nI (d + 1))] : List Value).toArray s 0 0 A) (F0 m 22 ls []) := by
      intro k
      induction k with
      | zero =>
        intro i hi ls hl
        obtain rfl : i = cf j := by omega
        refine lv_iload hx hb dX0_ties_22 (lv_at hl 0 rfl) ?_
        refine lv_aload_n hx hb dX0_ties_24 rfl (lv_at hl 2 rfl) ?_
        refine va_get (D := (dC, dI)) (ci := 0) (v := .ref (a 3)) (C := RX0) (T := TX0) (N := 11) hx hb hts hiw hown hK hP 0 rfl rfl 2 (by decide) hf_17 (fun _ h9 => h9) rfl dX0_ties_25 ?_
        refine lv_iload_n hx hb dX0_ties_28 rfl (lv_at hl 3 rfl) ?_
        refine ga_iald hx hb hK hP 3 0 rfl rfl j (v := nI (cf j)) rfl (by omega) (by decide) dX0_ties_29 ?_
        refine lv_icmp_ge (tgt := 61) hx hb dX0_ties_30 (by decide) (fun h30 => ?_) (fun h30 => absurd (Int32.le_refl _) h30)
        refine lv_iload_n hx hb dX0_ties_61 rfl (lv_at hl 1 rfl) ?_
        exact W.iret (v := (nI (cnt_ (gv tf (T1 d) j) (T1 (d + 1) j) (cf j)))) hx hb hr (fun t ht hW => ⟨⟨(nI (cnt_ (gv tf (T1 d) j) (T1 (d + 1) j) (cf j))), (r1, T1), rfl, ⟨congrArg nI (cnt_congr (hv1 (d + 1) hr1 j hj) _ (fun i hi => gv_congr (hv1 d (by omega) _ (htt j hj i hi)))), hr18, hv1⟩, by rw [ht]; exact hP, va_K.moved hW.alike hK, hD⟩, hS.F ht⟩) hS.2.2 dX0_ties_62
      | succ k ih =>
        intro i hi ls hl
        refine lv_iload hx hb dX0_ties_22 (lv_at hl 0 rfl) ?_
        refine lv_aload_n hx hb dX0_ties_24 rfl (lv_at hl 2 rfl) ?_
        refine va_get (D := (dC, dI)) (ci := 0) (v := .ref (a 3)) (C := RX0) (T := TX0) (N := 11) hx hb hts hiw hown hK hP 0 rfl rfl 2 (by decide) hf_17 (fun _ h9 => h9) rfl dX0_ties_25 ?_
        refine lv_iload_n hx hb dX0_ties_28 rfl (lv_at hl 3 rfl) ?_
        refine ga_iald hx hb hK hP 3 0 rfl rfl j (v := nI (cf j)) rfl (by omega) (by decide) dX0_ties_29 ?_
        refine lv_icmp_ge (tgt := 61) hx hb dX0_ties_30 (by decide) (fun h30 => absurd h30 (nI_ge (by omega) (by omega))) (fun h30 => ?_)
        refine lv_aload_n hx hb dX0_ties_33 rfl (lv_at hl 2 rfl) ?_
        refine lv_iload_n hx hb dX0_ties_34 rfl (lv_at hl 3 rfl) ?_
        refine lv_iload hx hb dX0_ties_35 (lv_at hl 0 rfl) ?_
        refine lv_iload_n hx hb dX0_ties_37 rfl (lv_at hl 4 rfl) ?_
        refine W.callR (r := gv tf (T1 d) j i) (W.runV (As := [.int (nI j), .int (nI i), .int (nI (d + 1))]) (rest := []) ⟨hx, hb, hml, hown, hts⟩ (kX0_moveValue l dC dI cI cZ cA a n am r1 mk wv lo cf tf T1 mt im j i d (by omega) (by omega) (by have := htt j hj i (by omega); omega)) (cwV 3 hts gX0_ties_X0_moveValue rfl rfl rfl (by decide +kernel) ⟨Nat.le_of_ble_eq_true rfl, Nat.le_of_ble_eq_true rfl⟩) ⟨blindR, va_recv hK hP (ci := 0) (q0 := 0) rfl rfl, preR hP hK⟩ rfl rfl hl.1 rfl (lv_room (Nat.le_of_ble_eq_true rfl)) dX0_ties_38 ⟨Nat.zero_le _, Nat.zero_le _⟩) ?_
        refine W.eq (g2 := F0 m 41 ls [.int (gv tf (T1 d) j i)]) rfl ?_
        refine lv_aload_n hx hb dX0_ties_41 rfl (lv_at hl 2 rfl) ?_
        refine va_get (D := (dC, dI)) (ci := 0) (v := .ref (a 5)) (C := RX0) (T := TX0) (N := 11) hx hb hts hiw hown hK hP 0 rfl rfl 6 (by decide) hf_32 (fun _ h9 => h9) rfl dX0_ties_42 ?_
        refine lv_iload_n hx hb dX0_ties_45 rfl (lv_at hl 4 rfl) ?_
        refine ga_aald hx hb hK hP 5 2 rfl rfl (d + 1) (a (8 + (d + 1))) (if_pos (by omega)) (by omega) (by decide) dX0_ties_46 ?_
        refine lv_iload_n hx hb dX0_ties_47 rfl (lv_at hl 3 rfl) ?_
        refine ga_iald hx hb hK hP (8 + (d + 1)) 0 (XW_row (by omega)) rfl j (v := T1 (d + 1) j) rfl (by omega) (by decide) dX0_ties_48 ?_
        refine lv_icmp_ne (tgt := 55) hx hb dX0_ties_49 (by decide) (fun h49 => ?_) (fun h49 => ?_)
        · refine lv_iinc (v := nI (i + 1)) (lv' := [(4, .int (nI (i + 1))), (3, .int (nI (cnt_ (gv tf (T1 d) j) (T1 (d + 1) j) i))), (0, .ref (a 0)), (1, .int (nI j)), (2, .int (nI (d + 1)))]) hx hb dX0_ties_55 hl (k := 0) rfl (nI_1 i) (by decide) rfl (fun ls hl => ?_)
          refine lv_goto (tgt := 22) hx hb dX0_ties_58 (by decide) ?_
          refine ih (i + 1) (by omega) ls ?_
          rw [cnt_, if_neg h49, Nat.add_zero]
          exact lv_sub hl [0, 1, 2, 3, 4] rfl
        · refine lv_iinc (v := nI (cnt_ (gv tf (T1 d) j) (T1 (d + 1) j) i + 1)) (lv' := [(3, .int (nI (cnt_ (gv tf (T1 d) j) (T1 (d + 1) j) i + 1))), (4, .int (nI i)), (0, .ref (a 0)), (1, .int (nI j)), (2, .int (nI (d + 1)))]) hx hb dX0_ties_52 hl (k := 1) rfl (nI_1 _) (by decide) rfl (fun ls hl => ?_)
          refine lv_iinc (v := nI (i + 1)) (lv' := [(4, .int (nI (i + 1))), (3, .int (nI (cnt_ (gv tf (T1 d) j) (T1 (d + 1) j) i + 1))), (0, .ref (a 0)), (1, .int (nI j)), (2, .int (nI (d + 1)))]) hx hb dX0_ties_55 hl (k := 1) rfl (nI_1 i) (by decide) rfl (fun ls hl => ?_)
          refine lv_goto (tgt := 22) hx hb dX0_ties_58 (by decide) ?_
          refine ih (i + 1) (by omega) ls ?_
          rw [cnt_, if_pos h49]
          exact lv_sub hl [0, 1, 2, 3, 4] rfl
    exact loop (cf j) 0 (by omega) ls (lv_sub hl [0, 1, 2, 3, 4] rfl)
  · refine lv_iconst (v := 0) hx hb dX0_ties_10 (by decide) ?_
    obtain rfl : d = 0 := (nI_eq (by omega) (by decide)).mp h7
    exact W.iret (v := 0) hx hb hr (fun t ht hW => ⟨⟨0, (rf, T), rfl, ⟨rfl, hr8, hrv⟩, by rw [ht]; exact hP, va_K.moved hW.alike hK, hD⟩, hS.F ht⟩) hS.2.2 dX0_ties_11
set_option maxHeartbeats 4000000 in
set_option maxRecDepth 100000 in
/-- line, no such place -/
theorem kX0_line_no (l : Launch) (dC : Nat → ClassId) (dI : Nat → Nat → Nat) (cI cZ cA : ClassId) (a : Nat → Nat) (n : Nat) (am : Nat) (rf : Nat) (mk : Nat) (wv : Nat → Int32) (lo : Nat → Int32) (cf : Nat → Nat) (tf : Nat → Nat) (T : Nat → Nat → Int32) (mt : Nat → Nat) (im : Nat → Int32) (j d : Nat) (i : Int32) (hn4 : n ≤ 400) (hj : j < n) (hd : d < 8) (hi : i < 0 ∨ nI d < i) : Met l yX0_line wsX0_line ({ frames := 7, cells := 0, slots := 0, locals := 112 }) (va_Pc [.ref (a 0), .int (nI j), .int (nI d), .int i] (RP dC dI (GT cI cZ cA) (XW cI cZ cA a n am rf mk wv lo cf tf T mt im))) (QcRead (-1)) 0 0 (fun _ => False) := by
  refine Met.ofW (cc := cX0_line) (maxL := 7) (ret := (some .int)) (by decide) rfl ?_
  intro p e s m args below meth c s₁ B hml hv
  obtain ⟨rfl, hP, hK⟩ := hv
  have hx := B.exec
  have hb := B.bytes
  have hr := B.returns
  have hts := atoms_spec (ws := wsX0_line) B.pre
  have hown : s.vm.findClass RX0 = some m.cls := findClass_of_methodNamed B.named
  have hlocks := B.notSynchronized
  have hf_20 := hts (.fieldLink RX0 20 "GraphSearch" "targets" "[I") (by decide +kernel)
  have hiw : ∀ w ∈ wsX00, w ∈ wsX0_line := by decide +kernel
  have hl := lv_entry ([.ref (a 0), .int (nI j), .int (nI d), .int i]) (n := 7) (Nat.le_of_ble_eq_true rfl)
  rw [lg_entry_eq]
  generalize (lg_sl ([.ref (a 0), .int (nI j), .int (nI d), .int i]) ++ List.replicate (7 - (lg_sl ([.ref (a 0), .int (nI j), .int (nI d), .int i])).length) Slot.unset).toArray = ls at hl ⊢
  have hl : lv_has ls 7 [(0, .ref (a 0)), (1, .int (nI j)), (2, .int (nI d)), (3, .int i)] := hl
  refine lv_aload_n hx hb dX0_line_0 rfl (lv_at hl 0 rfl) ?_
  refine lv_iload_n hx hb dX0_line_1 rfl (lv_at hl 1 rfl) ?_
  refine lv_iload_n hx hb dX0_line_2 rfl (lv_at hl 2 rfl) ?_
  refine va_csv (W.runV (As := [.int (nI j), .int (nI d)]) (rest := []) ⟨hx, hb, hml, hown, hts⟩ (kX0_refuse l dC dI cI cZ cA a n am rf mk wv lo cf tf T mt im j d hn4 hj hd) (cwV 2 hts gX0_line_X0_refuseWrongQuestion rfl rfl rfl (by decide +kernel) ⟨Nat.le_of_ble_eq_true rfl, Nat.le_of_ble_eq_true rfl⟩) ⟨blindR, va_recv hK hP (ci := 0) (q0 := 0) rfl rfl, preR hP hK⟩ rfl rfl hl.1 rfl (lv_room (Nat.le_of_ble_eq_true rfl)) dX0_line_3 ⟨Nat.zero_le _, Nat.zero_le _⟩) (fun _ => ?_)
  refine W.eq (g2 := F0 m 6 ls []) rfl ?_
  refine lv_iload_n hx hb dX0_line_6 rfl (lv_at hl 3 rfl) ?_
  refine lv_if_lt (tgt := 15) hx hb dX0_line_7 (by decide) (fun h7 => ?_) (fun h7 => ?_)
  · refine lv_iconst (v := (-1)) hx hb dX0_line_15 (by decide) ?_
    exact W.iret (v := (-1)) hx hb hr (fun t ht hW => ⟨rfl, ht⟩) (fun _ h => nomatch h) dX0_line_16
  · refine lv_iload_n hx hb dX0_line_10 rfl (lv_at hl 3 rfl) ?_
    refine lv_iload_n hx hb dX0_line_11 rfl (lv_at hl 2 rfl) ?_
    refine lv_icmp_le (tgt := 17) hx hb dX0_line_12 (by decide) (fun h12 => absurd h12 (fun q => by rcases hi with z | z; exact h7 z; rw [Int32.le_iff_toInt_le] at q; rw [Int32.lt_iff_toInt_lt] at z; omega)) (fun h12 => ?_)
    refine lv_iconst (v := (-1)) hx hb dX0_line_15 (by decide) ?_
    exact W.iret (v := (-1)) hx hb hr (fun t ht hW => ⟨rfl, ht⟩) (fun _ h => nomatch h) dX0_line_16
set_option maxHeartbeats 4000000 in
set_option maxRecDepth 100000 in
/-- line -/
theorem kX0_line (l : Launch) (dC : Nat → ClassId) (dI : Nat → Nat → Nat) (cI cZ cA : ClassId) (a : Nat → Nat) (sz : Nat) (n : Nat) (am : Nat) (rf : Nat) (mk : Nat) (wv : Nat → Int32) (lo : Nat → Int32) (cf : Nat → Nat) (tf : Nat → Nat) (T : Nat → Nat → Int32) (mt : Nat → Nat) (im : Nat → Int32) (j d : Nat) (i : Nat) (hd : d < 8) (hG : Gok n wv lo cf tf) (hT : Tok n wv lo cf tf rf T) (hj : j < n) (hi : i ≤ d) : Met l yX0_line wsX0_line ({ frames := 7, cells := 0, slots := 0, locals := 112 }) (va_Pc [.ref (a 0), .int (nI j), .int (nI d), .int (nI i)] (WP dC dI (GT cI cZ cA) (XW cI cZ cA a n am rf mk wv lo cf tf T mt im) sz)) (va_Qi (fun r (u : Nat × (Nat → Nat → Int32)) => r = lin cf tf (vv wv lo cf tf) i j d ∧ Tok n wv lo cf tf u.1 u.2) (fun u => WQ dC dI (GT cI cZ cA) (va_A (XW cI cZ cA a n am rf mk wv lo cf tf T mt im) sz) (XW cI cZ cA a n am (u.1) mk wv lo cf tf (u.2) mt im)) (va_A (XW cI cZ cA a n am rf mk wv lo cf tf T mt im) sz)) 0 0 (va_A (XW cI cZ cA a n am rf mk wv lo cf tf T mt im) sz) := by
  refine Met.ofW (cc := cX0_line) (maxL := 7) (ret := (some .int)) (by decide) rfl ?_
  intro p e s m args below meth c s₁ B hml hv
  obtain ⟨rfl, hsz, hP, hK, hD0⟩ := hv
  have hx := B.exec
  have hb := B.bytes
  have hr := B.returns
  have hts := atoms_spec (ws := wsX0_line) B.pre
  have hown : s.vm.findClass RX0 = some m.cls := findClass_of_methodNamed B.named
  have hlocks := B.notSynchronized
  have hf_20 := hts (.fieldLink RX0 20 "GraphSearch" "targets" "[I") (by decide +kernel)
  have hiw : ∀ w ∈ wsX00, w ∈ wsX0_line := by decide +kernel
  subst hsz
  have hD := hD0.self (sz := s.heap.size)
  generalize hAe : va_A (XW cI cZ cA a n am rf mk wv lo cf tf T mt im) s.heap.size = A at hD ⊢
  have hA : ∀ q : Nat, s.heap.size ≤ q → A q := fun q h => by rw [← hAe]; exact Or.inr h
  have hS : va_S A s.heap s.heap [] := va_S.rf
  have hP : va_P (dC, dI) vwCl (XW cI cZ cA a n am rf mk wv lo cf tf T mt im) s.heap := hP
  have hl := lv_entry ([.ref (a 0), .int (nI j), .int (nI d), .int (nI i)]) (n := 7) (Nat.le_of_ble_eq_true rfl)
  rw [lg_entry_eq]
  generalize (lg_sl ([.ref (a 0), .int (nI j), .int (nI d), .int (nI i)]) ++ List.replicate (7 - (lg_sl ([.ref (a 0), .int (nI j), .int (nI d), .int (nI i)])).length) Slot.unset).toArray = ls at hl ⊢
  have hl : lv_has ls 7 [(0, .ref (a 0)), (1, .int (nI j)), (2, .int (nI d)), (3, .int (nI i))] := hl
  obtain ⟨hn4, hwr, hc, htt, hlo, hz0⟩ := id hG
  obtain ⟨hr8, hrv⟩ := id hT
  have hcj := hc j hj
  refine lv_aload_n hx hb dX0_line_0 rfl (lv_at hl 0 rfl) ?_
  refine lv_iload_n hx hb dX0_line_1 rfl (lv_at hl 1 rfl) ?_
  refine lv_iload_n hx hb dX0_line_2 rfl (lv_at hl 2 rfl) ?_
  refine va_csv (W.runV (As := [.int (nI j), .int (nI d)]) (rest := []) ⟨hx, hb, hml, hown, hts⟩ (kX0_refuse l dC dI cI cZ cA a n am rf mk wv lo cf tf T mt im j d hn4 hj hd) (cwV 2 hts gX0_line_X0_refuseWrongQuestion rfl rfl rfl (by decide +kernel) ⟨Nat.le_of_ble_eq_true rfl, Nat.le_of_ble_eq_true rfl⟩) ⟨blindR, va_recv hK hP (ci := 0) (q0 := 0) rfl rfl, preR hP hK⟩ rfl rfl hl.1 rfl (lv_room (Nat.le_of_ble_eq_true rfl)) dX0_line_3 ⟨Nat.zero_le _, Nat.zero_le _⟩) (fun _ => ?_)
  refine W.eq (g2 := F0 m 6 ls []) rfl ?_
  refine lv_iload_n hx hb dX0_line_6 rfl (lv_at hl 3 rfl) ?_
  refine lv_if_lt (tgt := 15) hx hb dX0_line_7 (by decide) (fun h7 => absurd h7 (nI_pos (by omega))) (fun h7 => ?_)
  refine lv_iload_n hx hb dX0_line_10 rfl (lv_at hl 3 rfl) ?_
  refine lv_iload_n hx hb dX0_line_11 rfl (lv_at hl 2 rfl) ?_
  refine lv_icmp_le (tgt := 17) hx hb dX0_line_12 (by decide) (fun h12 => ?_) (fun h12 => absurd (nI_le hi (by omega)) h12)
  refine lv_aload_n hx hb dX0_line_17 rfl (lv_at hl 0 rfl) ?_
  refine lv_iload_n hx hb dX0_line_18 rfl (lv_at hl 2 rfl) ?_
  have hF := freeAll hD hS hA
  refine va_callv (va_runV (As := [.int (nI d)]) (rest := []) ⟨hx, hb, hml, hown, hts⟩ (kX0_deepenTo l dC dI cI cZ cA a s.heap.size n am rf mk wv lo cf tf T mt im d hd hG hr8 hrv) (cwV 1 hts gX0_line_X0_deepenTo rfl rfl rfl (by decide +kernel) ⟨Nat.le_of_ble_eq_true rfl, Nat.le_of_ble_eq_true rfl⟩) ⟨blindW, va_recv hK hP (ci := 0) (q0 := 0) rfl rfl, preW hP hK hD⟩ rfl rfl hl.1 rfl (lv_room (Nat.le_of_ble_eq_true rfl)) dX0_line_19 ⟨Nat.zero_le _, Nat.zero_le _⟩) hS (fun q _ h => hF q h) hF (fun u tS H1 locs htS hvm hw hB hz1 hk1 hS => ?_)
  obtain ⟨r1, T1⟩ := u
  obtain ⟨hr1, hr18, hv1⟩ : d < r1 ∧ r1 ≤ 8 ∧ ∀ e, e < r1 → ∀ x, x < n → T1 e x = vv wv lo cf tf e x := hw
  obtain ⟨hP1, hK1, hD1⟩ := hB
  rw [htS] at hP1
  have hP : va_P (dC, dI) vwCl (XW cI cZ cA a n am r1 mk wv lo cf tf T1 mt im) H1 := hP1
  have hD : va_D A (XW cI cZ cA a n am r1 mk wv lo cf tf T1 mt im) := hD1.weaken (fun _ _ _ h => hF _ h)
  generalize H1 = H at hP hS ⊢
  refine W.eq (g2 := F0 m 22 ls []) rfl ?_
  refine lv_iload_n hx hb dX0_line_22 rfl (lv_at hl 1 rfl) ?_
  refine lv_istore (lv' := [(4, .int (nI j)), (0, .ref (a 0)), (1, .int (nI j)), (2, .int (nI d)), (3, .int (nI i))]) hx hb dX0_line_23 hl (by decide) rfl (fun ls hl => ?_)
  refine lv_iconst (v := 0) hx hb dX0_line_25 (by decide) ?_
  refine ga_is (y := nI 0) (rfl) ?_
  refine lv_istore (lv' := [(5, .int (nI 0)), (4, .int (nI j)), (0, .ref (a 0)), (1, .int (nI j)), (2, .int (nI d)), (3, .int (nI i))]) hx hb dX0_line_26 hl (by decide) rfl (fun ls hl => ?_)
  have loop : ∀ k t x : Nat, t + k = i → x < n → lin cf tf (vv wv lo cf tf) k x (d - t) = lin cf tf (vv wv lo cf tf) i j d → ∀ ls : Array Slot, lv_has ls 7 [(5, .int (nI t)), (4, .int (nI x)), (0, .ref (a 0)), (1, .int (nI j)), (2, .int (nI d)), (3, .int (nI i))] → W p l e (headSpec wsX0_line (({ frames := 7, cells := 0, slots := 0, locals := 112 }) : Room)).room s m ([.ref (a 0), .int (nI j), .int (nI d), .int (nI i)] : List Value).toArray below meth c H locs 0 0 (MQ below (va_Qi (fun r (u : Nat × (Nat → Nat → Int32)) => r = lin cf tf (vv wv lo cf tf) i j d ∧ Tok n wv lo cf tf u.1 u.2) (fun u => WQ dC dI (GT cI cZ cA) A (XW cI cZ cA a n am (u.1) mk wv lo cf tf (u.2) mt im)) A) ([.ref (a 0), .int (nI j), .int (nI d), .int (nI i)] : List Value).toArray s 0 0 A) (F0 m 28 ls []) := by
    intro k
    induction k with
    | zero =>
      intro t x ht hxn he ls hl
      obtain rfl : t = i := by omega
      refine lv_iload hx hb dX0_line_28 (lv_at hl 0 rfl) ?_
      refine lv_iload_n hx hb dX0_line_30 rfl (lv_at hl 5 rfl) ?_
      refine lv_icmp_ge (tgt := 74) hx hb dX0_line_31 (by decide) (fun h31 => ?_) (fun h31 => absurd (Int32.le_refl _) h31)
      refine lv_iload hx hb dX0_line_74 (lv_at hl 1 rfl) ?_
      exact W.iret (v := (nI x)) hx hb hr (fun t ht hW => ⟨⟨(nI x), (r1, T1), rfl, ⟨by rw [← he]; rfl, hr18, hv1⟩, by rw [ht]; exact hP, va_K.moved hW.alike hK, hD⟩, hS.F ht⟩) hS.2.2 dX0_line_76
    | succ k ih =>
      intro t x ht hxn he ls hl
      have hcx := hc x hxn
      have hbm := bm_congr hxn htt (d - t) (fun e he y hy => hv1 e (by omega) y hy)
      refine lv_iload hx hb dX0_line_28 (lv_at hl 0 rfl) ?_
      refine lv_iload_n hx hb dX0_line_30 rfl (lv_at hl 5 rfl) ?_
      refine lv_icmp_ge (tgt := 74) hx hb dX0_line_31 (by decide) (fun h31 => absurd h31 (nI_ge (by omega) (by omega))) (fun h31 => ?_)
      refine lv_aload_n hx hb dX0_line_34 rfl (lv_at hl 2 rfl) ?_
      refine lv_iload hx hb dX0_line_35 (lv_at hl 1 rfl) ?_
      refine lv_iload_n hx hb dX0_line_37 rfl (lv_at hl 4 rfl) ?_
      refine lv_iload hx hb dX0_line_38 (lv_at hl 0 rfl) ?_
      refine lv_isub hx hb dX0_line_40 ?_
      refine ga_is (y := nI (d - t)) (pk_sub (by omega)) ?_
      refine W.callR (r := bm cf tf T1 x (d - t)) (W.runV (As := [.int (nI x), .int (nI (d - t))]) (rest := []) ⟨hx, hb, hml, hown, hts⟩ (kX0_bestMove l dC dI cI cZ cA a n am r1 mk wv lo cf tf T1 mt im x (d - t) (by omega) (by omega) hcx (fun i hi => by have := htt x hxn i hi; omega)) (cwV 2 hts gX0_line_X0_bestMove rfl rfl rfl (by decide +kernel) ⟨Nat.le_of_ble_eq_true rfl, Nat.le_of_ble_eq_true rfl⟩) ⟨blindR, va_recv hK hP (ci := 0) (q0 := 0) rfl rfl, preR hP hK⟩ rfl rfl hl.1 rfl (lv_room (Nat.le_of_ble_eq_true rfl)) dX0_line_41 ⟨Nat.zero_le _, Nat.zero_le _⟩) ?_
      refine W.eq (g2 := F0 m 44 ls [.int (bm cf tf T1 x (d - t))]) rfl ?_
      refine ga_is (y := bm cf tf (vv wv lo cf tf) x (d - t)) (hbm) ?_
      refine lv_istore (lv' := [(6, .int (bm cf tf (vv wv lo cf tf) x (d - t))), (5, .int (nI t)), (4, .int (nI x)), (0, .ref (a 0)), (1, .int (nI j)), (2, .int (nI d)), (3, .int (nI i))]) hx hb dX0_line_44 hl (by decide) rfl (fun ls hl => ?_)
      refine lv_iload hx hb dX0_line_46 (lv_at hl 0 rfl) ?_
      refine lv_iconst (v := (-1)) hx hb dX0_line_48 (by decide) ?_
      refine lv_icmp_ne (tgt := 54) hx hb dX0_line_49 (by decide) (fun h49 => ?_) (fun h49 => ?_)
      · obtain ⟨b, hb6, hbe⟩ := (bm_or (cf := cf) (tf := tf) (T := vv wv lo cf tf) (x := x) (d - t)).resolve_left h49
        have htb := htt x hxn b hb6
        rw [lin, if_neg h49, hbe, nI_clamp (by omega)] at he
        rw [hbe] at hl
        refine lv_aload_n hx hb dX0_line_54 rfl (lv_at hl 3 rfl) ?_
        refine va_get (D := (dC, dI)) (ci := 0) (v := .ref (a 4)) (C := RX0) (T := TX0) (N := 11) hx hb hts hiw hown hK hP 0 rfl rfl 3 (by decide) hf_20 (fun _ h9 => h9) rfl dX0_line_55 ?_
        refine lv_iload hx hb dX0_line_58 (lv_at hl 2 rfl) ?_
        refine lv_iload hx hb dX0_line_60 (lv_at hl 0 rfl) ?_
        refine W.callR (r := nI (x * 6 + b)) (W.runS (As := [.int (nI x), .int (nI b)]) (rest := [.ref (a 4)]) ⟨hx, hb, hml, hown, hts⟩ (kX0_place l x b) (va_cwS 2 hts gX0_line_X0_place rfl rfl rfl (by decide +kernel) ⟨Nat.le_of_ble_eq_true rfl, Nat.le_of_ble_eq_true rfl⟩) ⟨blindT, fun _ _ _ => ⟨rfl, trivial⟩⟩ rfl rfl hl.1 rfl (lv_room (Nat.le_of_ble_eq_true rfl)) dX0_line_62 ⟨Nat.zero_le _, Nat.zero_le _⟩) ?_
        refine W.eq (g2 := F0 m 65 ls [.int (nI (x * 6 + b)), .ref (a 4)]) rfl ?_
        refine ga_iald hx hb hK hP 4 0 rfl rfl (x * 6 + b) (v := nI (tf (x * 6 + b))) rfl (by omega) (by decide) dX0_line_65 ?_
        refine lv_istore (lv' := [(4, .int (nI (tf (x * 6 + b)))), (6, .int (nI b)), (5, .int (nI t)), (0, .ref (a 0)), (1, .int (nI j)), (2, .int (nI d)), (3, .int (nI i))]) hx hb dX0_line_66 hl (by decide) rfl (fun ls hl => ?_)
        refine lv_iinc (v := nI (t + 1)) (lv' := [(5, .int (nI (t + 1))), (4, .int (nI (tf (x * 6 + b)))), (6, .int (nI b)), (0, .ref (a 0)), (1, .int (nI j)), (2, .int (nI d)), (3, .int (nI i))]) hx hb dX0_line_68 hl (k := 2) rfl (nI_1 t) (by decide) rfl (fun ls hl => ?_)
        refine lv_goto (tgt := 28) hx hb dX0_line_71 (by decide) ?_
        exact ih (t + 1) _ (by omega) htb (by rw [← he]; congr 1) ls (lv_sub hl [0, 1, 3, 4, 5, 6] rfl)
      · refine lv_iconst (v := (-1)) hx hb dX0_line_52 (by decide) ?_
        exact W.iret (v := (-1)) hx hb hr (fun t ht hW => ⟨⟨(-1), (r1, T1), rfl, ⟨by rw [← he, lin, if_pos h49], hr18, hv1⟩, by rw [ht]; exact hP, va_K.moved hW.alike hK, hD⟩, hS.F ht⟩) hS.2.2 dX0_line_53
  exact loop i 0 j (by omega) hj rfl ls (lv_sub hl [0, 1, 2, 3, 4, 5] rfl)
