def ofx (wv lo : Nat → Int32) (cf tf : Nat → Nat) (j : Nat) (v : Int32) : Int32 := if v = 0 then wv j else if v = 1 then lo j else if v = 2 then nI (cf j) else ton cf tf j v
def off (n : Nat) (wv lo : Nat → Int32) (cf tf : Nat → Nat) (x v : Int32) : Int32 := if isn x n = 0 then (-1) else ofx wv lo cf tf x.toNatClampNeg v
theorem of_sw (v : Int32) : v = 0 ∨ v = 1 ∨ v = 2 ∨ (¬ v = 0 ∧ ¬ v = 1 ∧ ¬ v = 2 ∧ (v.toInt < 0 ∨ 2 < v.toInt)) := by
  by_cases h0 : v = 0
  · exact Or.inl h0
  by_cases h1 : v = 1
  · exact Or.inr (Or.inl h1)
  by_cases h2 : v = 2
  · exact Or.inr (Or.inr (Or.inl h2))
  refine Or.inr (Or.inr (Or.inr ⟨h0, h1, h2, ?_⟩))
  have e0 : v.toInt ≠ 0 := lv_neT h0 (by decide +kernel)
  have e1 : v.toInt ≠ 1 := lv_neT h1 (by decide +kernel)
  have e2 : v.toInt ≠ 2 := lv_neT h2 (by decide +kernel)
  omega
def bm (cf tf : Nat → Nat) (T : Nat → Nat → Int32) (x : Nat) : Nat → Int32
  | 0 => (-1)
  | d + 1 => fst_ (gv tf (T d) x) (T (d + 1) x) (cf x) 0
set_option maxHeartbeats 4000000 in
set_option maxRecDepth 100000 in
/-- findValue -/
theorem kX0_findValue (l : Launch) (dC : Nat → ClassId) (dI : Nat → Nat → Nat) (cI cZ cA : ClassId) (a : Nat → Nat) (n : Nat) (am : Nat) (rf : Nat) (mk : Nat) (wv : Nat → Int32) (lo : Nat → Int32) (cf : Nat → Nat) (tf : Nat → Nat) (T : Nat → Nat → Int32) (mt : Nat → Nat) (im : Nat → Int32) (x d : Nat) (hd : d < 8) (hx4 : x < 400) (hc : cf x ≤ 6) (ht : ∀ j, j < cf x → tf (x * 6 + j) < 400) (hg : ∀ e, d = e + 1 → ∀ j, j < cf x → rg (T e (tf (x * 6 + j)))) : Met l yX0_findValue wsX0_findValue ({ frames := 2, cells := 0, slots := 0, locals := 44 }) (va_Pc [.ref (a 0), .int (nI x), .int (nI d)] (RP dC dI (GT cI cZ cA) (XW cI cZ cA a n am rf mk wv lo cf tf T mt im))) (QcRead (fv wv lo cf tf T x d)) 0 0 (fun _ => False) := by
  refine Met.ofW (cc := cX0_findValue) (maxL := 5) (ret := (some .int)) (by decide) rfl ?_
  intro p e s m args below meth c s₁ B hml hv
  obtain ⟨rfl, hP, hK⟩ := hv
  have hx := B.exec
  have hb := B.bytes
  have hr := B.returns
  have hts := atoms_spec (ws := wsX0_findValue) B.pre
  have hown : s.vm.findClass RX0 = some m.cls := findClass_of_methodNamed B.named
  have hlocks := B.notSynchronized
  have hf_17 := hts (.fieldLink RX0 17 "GraphSearch" "moveCounts" "[I") (by decide +kernel)
  have hf_13 := hts (.fieldLink RX0 13 "GraphSearch" "losts" "[Z") (by decide +kernel)
  have hf_9 := hts (.fieldLink RX0 9 "GraphSearch" "worths" "[I") (by decide +kernel)
  have hiw : ∀ w ∈ wsX00, w ∈ wsX0_findValue := by decide +kernel
  have hl := lv_entry ([.ref (a 0), .int (nI x), .int (nI d)]) (n := 5) (Nat.le_of_ble_eq_true rfl)
  rw [lg_entry_eq]
  generalize (lg_sl ([.ref (a 0), .int (nI x), .int (nI d)]) ++ List.replicate (5 - (lg_sl ([.ref (a 0), .int (nI x), .int (nI d)])).length) Slot.unset).toArray = ls at hl ⊢
  have hl : lv_has ls 5 [(0, .ref (a 0)), (1, .int (nI x)), (2, .int (nI d))] := hl
  refine lv_aload_n hx hb dX0_findValue_0 rfl (lv_at hl 0 rfl) ?_
  refine va_get (D := (dC, dI)) (ci := 0) (v := .ref (a 3)) (C := RX0) (T := TX0) (N := 11) hx hb hts hiw hown hK hP 0 rfl rfl 2 (by decide) hf_17 (fun _ h9 => h9) rfl dX0_findValue_1 ?_
  refine lv_iload_n hx hb dX0_findValue_4 rfl (lv_at hl 1 rfl) ?_
  refine ga_iald hx hb hK hP 3 0 rfl rfl x (v := nI (cf x)) rfl (by omega) (by decide) dX0_findValue_5 ?_
  refine lv_if_ne (tgt := 26) hx hb dX0_findValue_6 (by decide) (fun h6 => ?_) (fun h6 => ?_)
  · have hc0 : 0 < cf x := Nat.pos_of_ne_zero (fun z => h6 (by rw [z]; rfl))
    refine lv_iload_n hx hb dX0_findValue_26 rfl (lv_at hl 2 rfl) ?_
    refine lv_if_ne (tgt := 37) hx hb dX0_findValue_27 (by decide) (fun h27 => ?_) (fun h27 => ?_)
    · obtain ⟨d, rfl⟩ : ∃ k, d = k + 1 := Nat.exists_eq_succ_of_ne_zero (fun z => h27 (by rw [z]; rfl))
      have hg := hg d rfl
      show W p l e _ s m _ below meth c s.heap [] 0 0 (MQ below (QcRead (if cf x = 0 then (if lo x = 0 then 0 else (-1000)) else gm tf (T d) x (cf x - 1))) _ s 0 0 (fun _ => False)) _
      rw [if_neg (by omega : ¬ cf x = 0)]
      refine lv_aload_n hx hb dX0_findValue_37 rfl (lv_at hl 0 rfl) ?_
      refine lv_iload_n hx hb dX0_findValue_38 rfl (lv_at hl 1 rfl) ?_
      have e0 : (0 : Int32) = nI 0 := rfl
      refine lv_iconst (v := 0) hx hb dX0_findValue_39 (by decide) ?_
      refine ga_is (y := nI 0) (rfl) ?_
      refine lv_iload_n hx hb dX0_findValue_40 rfl (lv_at hl 2 rfl) ?_
      refine W.callR (r := gv tf (T d) x 0) (W.runV (As := [.int (nI x), .int (nI 0), .int (nI (d + 1))]) (rest := []) ⟨hx, hb, hml, hown, hts⟩ (kX0_moveValue l dC dI cI cZ cA a n am rf mk wv lo cf tf T mt im x 0 d (by omega) (by omega) (ht 0 hc0)) (cwV 3 hts gX0_findValue_X0_moveValue rfl rfl rfl (by decide +kernel) ⟨Nat.le_of_ble_eq_true rfl, Nat.le_of_ble_eq_true rfl⟩) ⟨blindR, va_recv hK hP (ci := 0) (q0 := 0) rfl rfl, preR hP hK⟩ rfl rfl hl.1 rfl (lv_room (Nat.le_of_ble_eq_true rfl)) dX0_findValue_41 ⟨Nat.zero_le _, Nat.zero_le _⟩) ?_
      refine W.eq (g2 := F0 m 44 ls [.int (gv tf (T d) x 0)]) rfl ?_
      refine lv_istore_n (lv' := [(3, .int (gv tf (T d) x 0)), (0, .ref (a 0)), (1, .int (nI x)), (2, .int (nI (d + 1)))]) hx hb dX0_findValue_44 rfl hl (by decide) rfl (fun ls hl => ?_)
      refine lv_iconst (v := 1) hx hb dX0_findValue_45 (by decide) ?_
      refine ga_is (y := nI 1) (rfl) ?_
      refine lv_istore (lv' := [(4, .int (nI 1)), (3, .int (gv tf (T d) x 0)), (0, .ref (a 0)), (1, .int (nI x)), (2, .int (nI (d + 1)))]) hx hb dX0_findValue_46 hl (by decide) rfl (fun ls hl => ?_)
      have loop : ∀ (k j : Nat), j + k = cf x → 0 < j → ∀ ls : Array Slot, lv_has ls 5 [(4, .int (nI j)), (3, .int (gm tf (T d) x (j - 1))), (0, .ref (a 0)), (1, .int (nI x)), (2, .int (nI (d + 1)))] → W p l e (headSpec wsX0_findValue (({ frames := 2, cells := 0, slots := 0, locals := 44 }) : Room)).room s m ([.ref (a 0), .int (nI x), .int (nI (d + 1))] : List Value).toArray below meth c s.heap [] 0 0 (MQ below (QcRead (gm tf (T d) x (cf x - 1))) ([.ref (a 0), .int (nI x), .int (nI (d + 1))] : List Value).toArray s 0 0 (fun _ => False)) (F0 m 48 ls []) := by
        intro k
        induction k with
        | zero =>
          intro j hj h0 ls hl
          obtain rfl : j = cf x := by omega
          refine lv_iload hx hb dX0_findValue_48 (lv_at hl 0 rfl) ?_
          refine lv_aload_n hx hb dX0_findValue_50 rfl (lv_at hl 2 rfl) ?_
          refine va_get (D := (dC, dI)) (ci := 0) (v := .ref (a 3)) (C := RX0) (T := TX0) (N := 11) hx hb hts hiw hown hK hP 0 rfl rfl 2 (by decide) hf_17 (fun _ h9 => h9) rfl dX0_findValue_51 ?_
          refine lv_iload_n hx hb dX0_findValue_54 rfl (lv_at hl 3 rfl) ?_
          refine ga_iald hx hb hK hP 3 0 rfl rfl x (v := nI (cf x)) rfl (by omega) (by decide) dX0_findValue_55 ?_
          refine lv_icmp_ge (tgt := 85) hx hb dX0_findValue_56 (by decide) (fun h56 => ?_) (fun h56 => absurd (Int32.le_refl _) h56)
          refine lv_iload_n hx hb dX0_findValue_85 rfl (lv_at hl 1 rfl) ?_
          exact W.iret (v := (gm tf (T d) x (cf x - 1))) hx hb hr (fun t ht hW => ⟨rfl, ht⟩) (fun _ h => nomatch h) dX0_findValue_86
        | succ k ih =>
          intro j hj h0 ls hl
          refine lv_iload hx hb dX0_findValue_48 (lv_at hl 0 rfl) ?_
          refine lv_aload_n hx hb dX0_findValue_50 rfl (lv_at hl 2 rfl) ?_
          refine va_get (D := (dC, dI)) (ci := 0) (v := .ref (a 3)) (C := RX0) (T := TX0) (N := 11) hx hb hts hiw hown hK hP 0 rfl rfl 2 (by decide) hf_17 (fun _ h9 => h9) rfl dX0_findValue_51 ?_
          refine lv_iload_n hx hb dX0_findValue_54 rfl (lv_at hl 3 rfl) ?_
          refine ga_iald hx hb hK hP 3 0 rfl rfl x (v := nI (cf x)) rfl (by omega) (by decide) dX0_findValue_55 ?_
          refine lv_icmp_ge (tgt := 85) hx hb dX0_findValue_56 (by decide) (fun h56 => absurd h56 (nI_ge (by omega) (by omega))) (fun h56 => ?_)
          refine lv_iload_n hx hb dX0_findValue_59 rfl (lv_at hl 1 rfl) ?_
          refine lv_sipush (v := 999) hx hb dX0_findValue_60 (by decide) ?_
          refine lv_icmp_ge (tgt := 85) hx hb dX0_findValue_63 (by decide) (fun h63 => ?_) (fun h63 => ?_)
          · refine lv_iload_n hx hb dX0_findValue_85 rfl (lv_at hl 1 rfl) ?_
            exact W.iret (v := (gm tf (T d) x (j - 1))) hx hb hr (fun t ht hW => ⟨by rw [show cf x - 1 = (j - 1) + (cf x - j) by omega, gm_cut h63 _ (fun i hi => hg i (by omega))], ht⟩) (fun _ h => nomatch h) dX0_findValue_86
          · refine lv_iload_n hx hb dX0_findValue_66 rfl (lv_at hl 1 rfl) ?_
            refine lv_aload_n hx hb dX0_findValue_67 rfl (lv_at hl 2 rfl) ?_
            refine lv_iload_n hx hb dX0_findValue_68 rfl (lv_at hl 3 rfl) ?_
            refine lv_iload hx hb dX0_findValue_69 (lv_at hl 0 rfl) ?_
            refine lv_iload_n hx hb dX0_findValue_71 rfl (lv_at hl 4 rfl) ?_
            refine W.callR (r := gv tf (T d) x j) (W.runV (As := [.int (nI x), .int (nI j), .int (nI (d + 1))]) (rest := [.int (gm tf (T d) x (j - 1))]) ⟨hx, hb, hml, hown, hts⟩ (kX0_moveValue l dC dI cI cZ cA a n am rf mk wv lo cf tf T mt im x j d (by omega) (by omega) (ht j (by omega))) (cwV 3 hts gX0_findValue_X0_moveValue rfl rfl rfl (by decide +kernel) ⟨Nat.le_of_ble_eq_true rfl, Nat.le_of_ble_eq_true rfl⟩) ⟨blindR, va_recv hK hP (ci := 0) (q0 := 0) rfl rfl, preR hP hK⟩ rfl rfl hl.1 rfl (lv_room (Nat.le_of_ble_eq_true rfl)) dX0_findValue_72 ⟨Nat.zero_le _, Nat.zero_le _⟩) ?_
            refine W.eq (g2 := F0 m 75 ls [.int (gv tf (T d) x j), .int (gm tf (T d) x (j - 1))]) rfl ?_
            refine va_mmax hx hb (by rw [hml]; exact hl.1.symm) hown (hts (.methodLink RX0 112 Lib.Math.max.name) (by decide +kernel)) (hts (.static Lib.Math.max.name) (by decide +kernel)) (hts (.initialized "java/lang/Math") (by decide +kernel)) (hts (.code Lib.Math.max.name Lib.Math.max.code 2 (some .int)) (by decide +kernel)) (Nat.le_of_ble_eq_true rfl) (Nat.le_of_ble_eq_true rfl) (Nat.zero_le _) (Nat.zero_le _) dX0_findValue_75 ?_
            refine ga_is (y := gm tf (T d) x (j + 1 - 1)) (by rw [show j + 1 - 1 = (j - 1) + 1 by omega]; show _ = mx (gm tf (T d) x (j - 1)) (gv tf (T d) x (j - 1 + 1)); rw [show j - 1 + 1 = j by omega]; rfl) ?_
            refine lv_istore_n (lv' := [(3, .int (gm tf (T d) x (j + 1 - 1))), (4, .int (nI j)), (0, .ref (a 0)), (1, .int (nI x)), (2, .int (nI (d + 1)))]) hx hb dX0_findValue_78 rfl hl (by decide) rfl (fun ls hl => ?_)
            refine lv_iinc (v := nI (j + 1)) (lv' := [(4, .int (nI (j + 1))), (3, .int (gm tf (T d) x (j + 1 - 1))), (0, .ref (a 0)), (1, .int (nI x)), (2, .int (nI (d + 1)))]) hx hb dX0_findValue_79 hl (k := 1) rfl (nI_1 j) (by decide) rfl (fun ls hl => ?_)
            refine lv_goto (tgt := 48) hx hb dX0_findValue_82 (by decide) ?_
            exact ih (j + 1) (by omega) (by omega) ls (lv_sub hl [0, 1, 2, 3, 4] rfl)
      exact loop (cf x - 1) 1 (by omega) (by omega) ls (lv_sub hl [0, 1, 2, 3, 4] rfl)
    · refine lv_aload_n hx hb dX0_findValue_30 rfl (lv_at hl 0 rfl) ?_
      refine va_get (D := (dC, dI)) (ci := 0) (v := .ref (a 1)) (C := RX0) (T := TX0) (N := 11) hx hb hts hiw hown hK hP 0 rfl rfl 0 (by decide) hf_9 (fun _ h9 => h9) rfl dX0_findValue_31 ?_
      refine lv_iload_n hx hb dX0_findValue_34 rfl (lv_at hl 1 rfl) ?_
      refine ga_iald hx hb hK hP 1 0 rfl rfl x (v := wv x) rfl (by omega) (by decide) dX0_findValue_35 ?_
      obtain rfl : d = 0 := (nI_eq (by omega) (by decide)).mp (h27)
      exact W.iret (v := (wv x)) hx hb hr (fun t ht hW => ⟨by show _ = Outcome.returned (some (.int (if cf x = 0 then _ else wv x))); rw [if_neg (by omega)], ht⟩) (fun _ h => nomatch h) dX0_findValue_36
  · have hc0 : cf x = 0 := (nI_eq (by omega) (by decide)).mp (h6)
    have hfv : fv wv lo cf tf T x d = if lo x = 0 then 0 else (-1000) := by cases d <;> exact if_pos hc0
    refine lv_aload_n hx hb dX0_findValue_9 rfl (lv_at hl 0 rfl) ?_
    refine va_get (D := (dC, dI)) (ci := 0) (v := .ref (a 2)) (C := RX0) (T := TX0) (N := 11) hx hb hts hiw hown hK hP 0 rfl rfl 1 (by decide) hf_13 (fun _ h9 => h9) rfl dX0_findValue_10 ?_
    refine lv_iload_n hx hb dX0_findValue_13 rfl (lv_at hl 1 rfl) ?_
    refine ga_zald hx hb hK hP 2 1 rfl rfl x (v := lo x) rfl (by omega) (by decide) dX0_findValue_14 ?_
    refine lv_if_eq (tgt := 24) hx hb dX0_findValue_15 (by decide) (fun h15 => ?_) (fun h15 => ?_)
    · refine lv_iconst (v := 0) hx hb dX0_findValue_24 (by decide) ?_
      exact W.iret (v := 0) hx hb hr (fun t ht hW => ⟨by rw [hfv, if_pos h15], ht⟩) (fun _ h => nomatch h) dX0_findValue_25
    · refine lv_sipush (v := (-1000)) hx hb dX0_findValue_18 (by decide) ?_
      refine lv_goto (tgt := 25) hx hb dX0_findValue_21 (by decide) ?_
      exact W.iret (v := (-1000)) hx hb hr (fun t ht hW => ⟨by rw [hfv, if_neg h15], ht⟩) (fun _ h => nomatch h) dX0_findValue_25
set_option maxHeartbeats 4000000 in
set_option maxRecDepth 100000 in
/-- bestMove -/
theorem kX0_bestMove (l : Launch) (dC : Nat → ClassId) (dI : Nat → Nat → Nat) (cI cZ cA : ClassId) (a : Nat → Nat) (n : Nat) (am : Nat) (rf : Nat) (mk : Nat) (wv : Nat → Int32) (lo : Nat → Int32) (cf : Nat → Nat) (tf : Nat → Nat) (T : Nat → Nat → Int32) (mt : Nat → Nat) (im : Nat → Int32) (x d : Nat) (hd : d < 8) (hx4 : x < 400) (hc : cf x ≤ 6) (ht : ∀ j, j < cf x → tf (x * 6 + j) < 400) : Met l yX0_bestMove wsX0_bestMove ({ frames := 2, cells := 0, slots := 0, locals := 44 }) (va_Pc [.ref (a 0), .int (nI x), .int (nI d)] (RP dC dI (GT cI cZ cA) (XW cI cZ cA a n am rf mk wv lo cf tf T mt im))) (QcRead (bm cf tf T x d)) 0 0 (fun _ => False) := by
  refine Met.ofW (cc := cX0_bestMove) (maxL := 4) (ret := (some .int)) (by decide) rfl ?_
  intro p e s m args below meth c s₁ B hml hv
  obtain ⟨rfl, hP, hK⟩ := hv
  have hx := B.exec
  have hb := B.bytes
  have hr := B.returns
  have hts := atoms_spec (ws := wsX0_bestMove) B.pre
  have hown : s.vm.findClass RX0 = some m.cls := findClass_of_methodNamed B.named
  have hlocks := B.notSynchronized
  have hf_17 := hts (.fieldLink RX0 17 "GraphSearch" "moveCounts" "[I") (by decide +kernel)
  have hf_32 := hts (.fieldLink RX0 32 "GraphSearch" "table" "[[I") (by decide +kernel)
  have hiw : ∀ w ∈ wsX00, w ∈ wsX0_bestMove := by decide +kernel
  have hl := lv_entry ([.ref (a 0), .int (nI x), .int (nI d)]) (n := 4) (Nat.le_of_ble_eq_true rfl)
  rw [lg_entry_eq]
  generalize (lg_sl ([.ref (a 0), .int (nI x), .int (nI d)]) ++ List.replicate (4 - (lg_sl ([.ref (a 0), .int (nI x), .int (nI d)])).length) Slot.unset).toArray = ls at hl ⊢
  have hl : lv_has ls 4 [(0, .ref (a 0)), (1, .int (nI x)), (2, .int (nI d))] := hl
  refine lv_iload_n hx hb dX0_bestMove_0 rfl (lv_at hl 2 rfl) ?_
  refine lv_if_ne (tgt := 6) hx hb dX0_bestMove_1 (by decide) (fun h1 => ?_) (fun h1 => ?_)
  · obtain ⟨d, rfl⟩ : ∃ k, d = k + 1 := Nat.exists_eq_succ_of_ne_zero (fun z => h1 (by rw [z]; rfl))
    refine lv_iconst (v := 0) hx hb dX0_bestMove_6 (by decide) ?_
    refine ga_is (y := nI 0) (rfl) ?_
    refine lv_istore_n (lv' := [(3, .int (nI 0)), (0, .ref (a 0)), (1, .int (nI x)), (2, .int (nI (d + 1)))]) hx hb dX0_bestMove_7 rfl hl (by decide) rfl (fun ls hl => ?_)
    have loop : ∀ (k j : Nat), j + k = cf x → ∀ ls : Array Slot, lv_has ls 4 [(3, .int (nI j)), (0, .ref (a 0)), (1, .int (nI x)), (2, .int (nI (d + 1)))] → W p l e (headSpec wsX0_bestMove (({ frames := 2, cells := 0, slots := 0, locals := 44 }) : Room)).room s m ([.ref (a 0), .int (nI x), .int (nI (d + 1))] : List Value).toArray below meth c s.heap [] 0 0 (MQ below (QcRead (fst_ (gv tf (T d) x) (T (d + 1) x) k j)) ([.ref (a 0), .int (nI x), .int (nI (d + 1))] : List Value).toArray s 0 0 (fun _ => False)) (F0 m 8 ls []) := by
      intro k
      induction k with
      | zero =>
        intro j hj ls hl
        obtain rfl : j = cf x := by omega
        refine lv_iload_n hx hb dX0_bestMove_8 rfl (lv_at hl 0 rfl) ?_
        refine lv_aload_n hx hb dX0_bestMove_9 rfl (lv_at hl 1 rfl) ?_
        refine va_get (D := (dC, dI)) (ci := 0) (v := .ref (a 3)) (C := RX0) (T := TX0) (N := 11) hx hb hts hiw hown hK hP 0 rfl rfl 2 (by decide) hf_17 (fun _ h9 => h9) rfl dX0_bestMove_10 ?_
        refine lv_iload_n hx hb dX0_bestMove_13 rfl (lv_at hl 2 rfl) ?_
        refine ga_iald hx hb hK hP 3 0 rfl rfl x (v := nI (cf x)) rfl (by omega) (by decide) dX0_bestMove_14 ?_
        refine lv_icmp_ge (tgt := 44) hx hb dX0_bestMove_15 (by decide) (fun h15 => ?_) (fun h15 => absurd (Int32.le_refl _) h15)
        refine lv_iconst (v := (-1)) hx hb dX0_bestMove_44 (by decide) ?_
        exact W.iret (v := (-1)) hx hb hr (fun t ht hW => ⟨rfl, ht⟩) (fun _ h => nomatch h) dX0_bestMove_45
      | succ k ih =>
        intro j hj ls hl
        refine lv_iload_n hx hb dX0_bestMove_8 rfl (lv_at hl 0 rfl) ?_
        refine lv_aload_n hx hb dX0_bestMove_9 rfl (lv_at hl 1 rfl) ?_
        refine va_get (D := (dC, dI)) (ci := 0) (v := .ref (a 3)) (C := RX0) (T := TX0) (N := 11) hx hb hts hiw hown hK hP 0 rfl rfl 2 (by decide) hf_17 (fun _ h9 => h9) rfl dX0_bestMove_10 ?_
        refine lv_iload_n hx hb dX0_bestMove_13 rfl (lv_at hl 2 rfl) ?_
        refine ga_iald hx hb hK hP 3 0 rfl rfl x (v := nI (cf x)) rfl (by omega) (by decide) dX0_bestMove_14 ?_
        refine lv_icmp_ge (tgt := 44) hx hb dX0_bestMove_15 (by decide) (fun h15 => absurd h15 (nI_ge (by omega) (by omega))) (fun h15 => ?_)
        refine lv_aload_n hx hb dX0_bestMove_18 rfl (lv_at hl 1 rfl) ?_
        refine lv_iload_n hx hb dX0_bestMove_19 rfl (lv_at hl 2 rfl) ?_
        refine lv_iload_n hx hb dX0_bestMove_20 rfl (lv_at hl 0 rfl) ?_
        refine lv_iload_n hx hb dX0_bestMove_21 rfl (lv_at hl 3 rfl) ?_
        refine W.callR (r := gv tf (T d) x j) (W.runV (As := [.int (nI x), .int (nI j), .int (nI (d + 1))]) (rest := []) ⟨hx, hb, hml, hown, hts⟩ (kX0_moveValue l dC dI cI cZ cA a n am rf mk wv lo cf tf T mt im x j d (by omega) (by omega) (ht j (by omega))) (cwV 3 hts gX0_bestMove_X0_moveValue rfl rfl rfl (by decide +kernel) ⟨Nat.le_of_ble_eq_true rfl, Nat.le_of_ble_eq_true rfl⟩) ⟨blindR, va_recv hK hP (ci := 0) (q0 := 0) rfl rfl, preR hP hK⟩ rfl rfl hl.1 rfl (lv_room (Nat.le_of_ble_eq_true rfl)) dX0_bestMove_22 ⟨Nat.zero_le _, Nat.zero_le _⟩) ?_
        refine W.eq (g2 := F0 m 25 ls [.int (gv tf (T d) x j)]) rfl ?_
        refine lv_aload_n hx hb dX0_bestMove_25 rfl (lv_at hl 1 rfl) ?_
        refine va_get (D := (dC, dI)) (ci := 0) (v := .ref (a 5)) (C := RX0) (T := TX0) (N := 11) hx hb hts hiw hown hK hP 0 rfl rfl 6 (by decide) hf_32 (fun _ h9 => h9) rfl dX0_bestMove_26 ?_
        refine lv_iload_n hx hb dX0_bestMove_29 rfl (lv_at hl 3 rfl) ?_
        refine ga_aald hx hb hK hP 5 2 rfl rfl (d + 1) (a (8 + (d + 1))) (if_pos (by omega)) (by omega) (by decide) dX0_bestMove_30 ?_
        refine lv_iload_n hx hb dX0_bestMove_31 rfl (lv_at hl 2 rfl) ?_
        refine ga_iald hx hb hK hP (8 + (d + 1)) 0 (XW_row (by omega)) rfl x (v := T (d + 1) x) rfl (by omega) (by decide) dX0_bestMove_32 ?_
        refine lv_icmp_ne (tgt := 38) hx hb dX0_bestMove_33 (by decide) (fun h33 => ?_) (fun h33 => ?_)
        · show W p l e _ s m _ below meth c s.heap [] 0 0 (MQ below (QcRead (if gv tf (T d) x j = T (d + 1) x then nI j else fst_ (gv tf (T d) x) (T (d + 1) x) k (j + 1))) _ s 0 0 (fun _ => False)) _
          rw [if_neg h33]
          refine lv_iinc (v := nI (j + 1)) (lv' := [(3, .int (nI (j + 1))), (0, .ref (a 0)), (1, .int (nI x)), (2, .int (nI (d + 1)))]) hx hb dX0_bestMove_38 hl (k := 0) rfl (nI_1 j) (by decide) rfl (fun ls hl => ?_)
          refine lv_goto (tgt := 8) hx hb dX0_bestMove_41 (by decide) ?_
          exact ih (j + 1) (by omega) ls (lv_sub hl [0, 1, 2, 3] rfl)
        · refine lv_iload_n hx hb dX0_bestMove_36 rfl (lv_at hl 0 rfl) ?_
          exact W.iret (v := (nI j)) hx hb hr (fun t ht hW => ⟨by rw [fst_, if_pos h33], ht⟩) (fun _ h => nomatch h) dX0_bestMove_37
    exact loop (cf x) 0 (by omega) ls (lv_sub hl [0, 1, 2, 3] rfl)
  · obtain rfl : d = 0 := (nI_eq (by omega) (by decide)).mp (h1)
    refine lv_iconst (v := (-1)) hx hb dX0_bestMove_4 (by decide) ?_
    exact W.iret (v := (-1)) hx hb hr (fun t ht hW => ⟨rfl, ht⟩) (fun _ h => nomatch h) dX0_bestMove_5
set_option maxHeartbeats 4000000 in
set_option maxRecDepth 100000 in
/-- of -/
theorem kX0_of (l : Launch) (dC : Nat → ClassId) (dI : Nat → Nat → Nat) (cI cZ cA : ClassId) (a : Nat → Nat) (n : Nat) (am : Nat) (rf : Nat) (mk : Nat) (wv : Nat → Int32) (lo : Nat → Int32) (cf : Nat → Nat) (tf : Nat → Nat) (T : Nat → Nat → Int32) (mt : Nat → Nat) (im : Nat → Int32) (x v : Int32) (hn4 : n ≤ 400) (hc : ∀ j, j < n → cf j ≤ 6) (hlo : ∀ j, lo j = 0 ∨ lo j = 1) : Met l yX0_of wsX0_of ({ frames := 2, cells := 0, slots := 0, locals := 43 }) (va_Pc [.ref (a 0), .int x, .int v] (RP dC dI (GT cI cZ cA) (XW cI cZ cA a n am rf mk wv lo cf tf T mt im))) (QcRead (off n wv lo cf tf x v)) 0 0 (fun _ => False) := by
  refine Met.ofW (cc := cX0_of) (maxL := 3) (ret := (some .int)) (by decide) rfl ?_
  intro p e s m args below meth c s₁ B hml hv
  obtain ⟨rfl, hP, hK⟩ := hv
  have hx := B.exec
  have hb := B.bytes
  have hr := B.returns
  have hts := atoms_spec (ws := wsX0_of) B.pre
  have hown : s.vm.findClass RX0 = some m.cls := findClass_of_methodNamed B.named
  have hlocks := B.notSynchronized
  have hf_9 := hts (.fieldLink RX0 9 "GraphSearch" "worths" "[I") (by decide +kernel)
  have hf_13 := hts (.fieldLink RX0 13 "GraphSearch" "losts" "[Z") (by decide +kernel)
  have hf_17 := hts (.fieldLink RX0 17 "GraphSearch" "moveCounts" "[I") (by decide +kernel)
  have hiw : ∀ w ∈ wsX00, w ∈ wsX0_of := by decide +kernel
  have hl := lv_entry ([.ref (a 0), .int x, .int v]) (n := 3) (Nat.le_of_ble_eq_true rfl)
  rw [lg_entry_eq]
  generalize (lg_sl ([.ref (a 0), .int x, .int v]) ++ List.replicate (3 - (lg_sl ([.ref (a 0), .int x, .int v])).length) Slot.unset).toArray = ls at hl ⊢
  have hl : lv_has ls 3 [(0, .ref (a 0)), (1, .int x), (2, .int v)] := hl
  refine lv_aload_n hx hb dX0_of_0 rfl (lv_at hl 0 rfl) ?_
  refine lv_iload_n hx hb dX0_of_1 rfl (lv_at hl 1 rfl) ?_
  refine W.callR (r := isn x n) (W.runV (As := [.int x]) (rest := []) ⟨hx, hb, hml, hown, hts⟩ (kX0_isNode l dC dI cI cZ cA a n am rf mk wv lo cf tf T mt im x) (cwV 1 hts gX0_of_X0_isNode rfl rfl rfl (by decide +kernel) ⟨Nat.le_of_ble_eq_true rfl, Nat.le_of_ble_eq_true rfl⟩) ⟨blindR, va_recv hK hP (ci := 0) (q0 := 0) rfl rfl, preR hP hK⟩ rfl rfl hl.1 rfl (lv_room (Nat.le_of_ble_eq_true rfl)) dX0_of_2 ⟨Nat.zero_le _, Nat.zero_le _⟩) ?_
  refine W.eq (g2 := F0 m 5 ls [.int (isn x n)]) rfl ?_
  refine lv_if_ne (tgt := 10) hx hb dX0_of_5 (by decide) (fun h5 => ?_) (fun h5 => ?_)
  · rcases isn_in (x := x) (n := n) (by omega) with ⟨i1, j, hj, rfl⟩ | ⟨i0, -⟩
    · have ho : off n wv lo cf tf (nI j) v = ofx wv lo cf tf j v := by rw [off, if_neg (by rw [i1]; decide), nI_clamp (by omega)]
      have hcj := hc j hj
      refine lv_iload_n hx hb dX0_of_10 rfl (lv_at hl 2 rfl) ?_
      rcases of_sw v with h0 | h0 | h0 | ⟨h0, h1, h2, h3⟩
      · refine lv_tableIn (tgt := 36) (off := 25) hx hb dX0_of_11 (by rw [h0]; decide +kernel) (by rw [h0]; decide +kernel) (by rw [h0]; decide +kernel) (by decide) ?_
        refine lv_aload_n hx hb dX0_of_36 rfl (lv_at hl 0 rfl) ?_
        refine va_get (D := (dC, dI)) (ci := 0) (v := .ref (a 1)) (C := RX0) (T := TX0) (N := 11) hx hb hts hiw hown hK hP 0 rfl rfl 0 (by decide) hf_9 (fun _ h9 => h9) rfl dX0_of_37 ?_
        refine lv_iload_n hx hb dX0_of_40 rfl (lv_at hl 1 rfl) ?_
        refine ga_iald hx hb hK hP 1 0 rfl rfl j (v := wv j) rfl (by omega) (by decide) dX0_of_41 ?_
        exact W.iret (v := (wv j)) hx hb hr (fun t ht hW => ⟨by rw [ho, ofx, if_pos h0], ht⟩) (fun _ h => nomatch h) dX0_of_42
      · refine lv_tableIn (tgt := 43) (off := 32) hx hb dX0_of_11 (by rw [h0]; decide +kernel) (by rw [h0]; decide +kernel) (by rw [h0]; decide +kernel) (by decide) ?_
        refine lv_aload_n hx hb dX0_of_43 rfl (lv_at hl 0 rfl) ?_
        refine va_get (D := (dC, dI)) (ci := 0) (v := .ref (a 2)) (C := RX0) (T := TX0) (N := 11) hx hb hts hiw hown hK hP 0 rfl rfl 1 (by decide) hf_13 (fun _ h9 => h9) rfl dX0_of_44 ?_
        refine lv_iload_n hx hb dX0_of_47 rfl (lv_at hl 1 rfl) ?_
        refine ga_zald hx hb hK hP 2 1 rfl rfl j (v := lo j) rfl (by omega) (by decide) dX0_of_48 ?_
        refine lv_if_eq (tgt := 56) hx hb dX0_of_49 (by decide) (fun h49 => ?_) (fun h49 => ?_)
        · refine lv_iconst (v := 0) hx hb dX0_of_56 (by decide) ?_
          exact W.iret (v := 0) hx hb hr (fun t ht hW => ⟨by rw [ho, ofx, if_neg (by rw [h0]; decide), if_pos h0, h49], ht⟩) (fun _ h => nomatch h) dX0_of_57
        · refine lv_iconst (v := 1) hx hb dX0_of_52 (by decide) ?_
          refine lv_goto (tgt := 57) hx hb dX0_of_53 (by decide) ?_
          exact W.iret (v := 1) hx hb hr (fun t ht hW => ⟨by rw [ho, ofx, if_neg (by rw [h0]; decide), if_pos h0, (hlo j).resolve_left h49], ht⟩) (fun _ h => nomatch h) dX0_of_57
      · refine lv_tableIn (tgt := 58) (off := 47) hx hb dX0_of_11 (by rw [h0]; decide +kernel) (by rw [h0]; decide +kernel) (by rw [h0]; decide +kernel) (by decide) ?_
        refine lv_aload_n hx hb dX0_of_58 rfl (lv_at hl 0 rfl) ?_
        refine va_get (D := (dC, dI)) (ci := 0) (v := .ref (a 3)) (C := RX0) (T := TX0) (N := 11) hx hb hts hiw hown hK hP 0 rfl rfl 2 (by decide) hf_17 (fun _ h9 => h9) rfl dX0_of_59 ?_
        refine lv_iload_n hx hb dX0_of_62 rfl (lv_at hl 1 rfl) ?_
        refine ga_iald hx hb hK hP 3 0 rfl rfl j (v := nI (cf j)) rfl (by omega) (by decide) dX0_of_63 ?_
        exact W.iret (v := (nI (cf j))) hx hb hr (fun t ht hW => ⟨by rw [ho, ofx, if_neg (by rw [h0]; decide), if_neg (by rw [h0]; decide), if_pos h0], ht⟩) (fun _ h => nomatch h) dX0_of_64
      · refine lv_tableOut (tgt := 65) hx hb dX0_of_11 h3 (by decide) ?_
        refine lv_aload_n hx hb dX0_of_65 rfl (lv_at hl 0 rfl) ?_
        refine lv_iload_n hx hb dX0_of_66 rfl (lv_at hl 1 rfl) ?_
        refine lv_iload_n hx hb dX0_of_67 rfl (lv_at hl 2 rfl) ?_
        refine W.callR (r := ton cf tf j v) (W.runV (As := [.int (nI j), .int v]) (rest := []) ⟨hx, hb, hml, hown, hts⟩ (kX0_targetOrNone l dC dI cI cZ cA a n am rf mk wv lo cf tf T mt im j v (by omega) hcj) (cwV 2 hts gX0_of_X0_targetOrNone rfl rfl rfl (by decide +kernel) ⟨Nat.le_of_ble_eq_true rfl, Nat.le_of_ble_eq_true rfl⟩) ⟨blindR, va_recv hK hP (ci := 0) (q0 := 0) rfl rfl, preR hP hK⟩ rfl rfl hl.1 rfl (lv_room (Nat.le_of_ble_eq_true rfl)) dX0_of_68 ⟨Nat.zero_le _, Nat.zero_le _⟩) ?_
        refine W.eq (g2 := F0 m 71 ls [.int (ton cf tf j v)]) rfl ?_
        exact W.iret (v := (ton cf tf j v)) hx hb hr (fun t ht hW => ⟨by rw [ho, ofx, if_neg h0, if_neg h1, if_neg h2], ht⟩) (fun _ h => nomatch h) dX0_of_71
    · exact absurd i0 h5
  · refine lv_iconst (v := (-1)) hx hb dX0_of_8 (by decide) ?_
    exact W.iret (v := (-1)) hx hb hr (fun t ht hW => ⟨by rw [off, if_pos h5], ht⟩) (fun _ h => nomatch h) dX0_of_9
