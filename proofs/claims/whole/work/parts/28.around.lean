set_option maxHeartbeats 4000000 in
set_option maxRecDepth 100000 in
/-- meetTargets -/
theorem kX0_meetTargets (l : Launch) (dC : Nat → ClassId) (dI : Nat → Nat → Nat) (cI cZ cA : ClassId) (a : Nat → Nat) (sz : Nat) (n : Nat) (am : Nat) (rf : Nat) (mk : Nat) (wv : Nat → Int32) (lo : Nat → Int32) (cf : Nat → Nat) (tf : Nat → Nat) (T : Nat → Nat → Int32) (mt : Nat → Nat) (im : Nat → Int32) (x : Nat) (hG : Gok n wv lo cf tf) (hxn : x < n) (hM : Mrun n mk mt im) : Met l yX0_meetTargets wsX0_meetTargets ({ frames := 1, cells := 0, slots := 0, locals := 21 }) (va_Pc [.ref (a 0), .int (nI x)] (WP dC dI (GT cI cZ cA) (XW cI cZ cA a n am rf mk wv lo cf tf T mt im) sz)) (va_Qv (fun u : Nat × (Nat → Nat) × (Nat → Int32) => Mrun n u.1 u.2.1 u.2.2 ∧ mk ≤ u.1 ∧ (∀ i, i < mk → u.2.1 i = mt i) ∧ ∀ z, u.2.2 z = 1 ↔ im z = 1 ∨ ∃ j, j < cf x ∧ tf (x * 6 + j) = z) (fun u => WQ dC dI (GT cI cZ cA) (va_A (XW cI cZ cA a n am rf mk wv lo cf tf T mt im) sz) (XW cI cZ cA a n am rf (u.1) wv lo cf tf T (u.2.1) (u.2.2))) (va_A (XW cI cZ cA a n am rf mk wv lo cf tf T mt im) sz)) 0 0 (va_A (XW cI cZ cA a n am rf mk wv lo cf tf T mt im) sz) := by
  refine Met.ofW (cc := cX0_meetTargets) (maxL := 3) (ret := none) (by decide) rfl ?_
  intro p e s m args below meth c s₁ B hml hv
  obtain ⟨rfl, hsz, hP, hK, hD0⟩ := hv
  have hx := B.exec
  have hb := B.bytes
  have hr := B.returns
  have hts := atoms_spec (ws := wsX0_meetTargets) B.pre
  have hown : s.vm.findClass RX0 = some m.cls := findClass_of_methodNamed B.named
  have hlocks := B.notSynchronized
  have hf_17 := hts (.fieldLink RX0 17 "GraphSearch" "moveCounts" "[I") (by decide +kernel)
  have hf_20 := hts (.fieldLink RX0 20 "GraphSearch" "targets" "[I") (by decide +kernel)
  have hiw : ∀ w ∈ wsX00, w ∈ wsX0_meetTargets := by decide +kernel
  subst hsz
  have hD := hD0.self (sz := s.heap.size)
  generalize hAe : va_A (XW cI cZ cA a n am rf mk wv lo cf tf T mt im) s.heap.size = A at hD ⊢
  have hA : ∀ q : Nat, s.heap.size ≤ q → A q := fun q h => by rw [← hAe]; exact Or.inr h
  have hS : va_S A s.heap s.heap [] := va_S.rf
  have hP : va_P (dC, dI) vwCl (XW cI cZ cA a n am rf mk wv lo cf tf T mt im) s.heap := hP
  have hl := lv_entry ([.ref (a 0), .int (nI x)]) (n := 3) (Nat.le_of_ble_eq_true rfl)
  rw [lg_entry_eq]
  generalize (lg_sl ([.ref (a 0), .int (nI x)]) ++ List.replicate (3 - (lg_sl ([.ref (a 0), .int (nI x)])).length) Slot.unset).toArray = ls at hl ⊢
  have hl : lv_has ls 3 [(0, .ref (a 0)), (1, .int (nI x))] := hl
  obtain ⟨hn4, hwr, hc, htt, hlo, hz0⟩ := id hG
  have hcx := hc x hxn
  refine lv_iconst (v := 0) hx hb dX0_meetTargets_0 (by decide) ?_
  refine ga_is (y := nI 0) (rfl) ?_
  refine lv_istore_n (lv' := [(2, .int (nI 0)), (0, .ref (a 0)), (1, .int (nI x))]) hx hb dX0_meetTargets_1 rfl hl (by decide) rfl (fun ls hl => ?_)
  have loop : ∀ (k j : Nat), j + k = cf x → ∀ (mk1 : Nat) (mt1 : Nat → Nat) (im1 : Nat → Int32), Mrun n mk1 mt1 im1 → mk ≤ mk1 → (∀ i, i < mk → mt1 i = mt i) → (∀ z, im1 z = 1 ↔ im z = 1 ∨ ∃ i, i < j ∧ tf (x * 6 + i) = z) → ∀ (H : Heap) (locs : List Loc), va_P (dC, dI) vwCl (XW cI cZ cA a n am rf mk1 wv lo cf tf T mt1 im1) H → va_D A (XW cI cZ cA a n am rf mk1 wv lo cf tf T mt1 im1) → va_S A s.heap H locs → ∀ ls : Array Slot, lv_has ls 3 [(2, .int (nI j)), (0, .ref (a 0)), (1, .int (nI x))] → W p l e (headSpec wsX0_meetTargets (({ frames := 1, cells := 0, slots := 0, locals := 21 }) : Room)).room s m ([.ref (a 0), .int (nI x)] : List Value).toArray below meth c H locs 0 0 (MQ below (va_Qv (fun u : Nat × (Nat → Nat) × (Nat → Int32) => Mrun n u.1 u.2.1 u.2.2 ∧ mk ≤ u.1 ∧ (∀ i, i < mk → u.2.1 i = mt i) ∧ ∀ z, u.2.2 z = 1 ↔ im z = 1 ∨ ∃ j, j < cf x ∧ tf (x * 6 + j) = z) (fun u => WQ dC dI (GT cI cZ cA) A (XW cI cZ cA a n am rf (u.1) wv lo cf tf T (u.2.1) (u.2.2))) A) ([.ref (a 0), .int (nI x)] : List Value).toArray s 0 0 A) (F0 m 2 ls []) := by
    intro k
    induction k with
    | zero =>
      intro j hj mk1 mt1 im1 h1 h2 h3 h4 H locs hP hD hS ls hl
      obtain rfl : j = cf x := by omega
      refine lv_iload_n hx hb dX0_meetTargets_2 rfl (lv_at hl 0 rfl) ?_
      refine lv_aload_n hx hb dX0_meetTargets_3 rfl (lv_at hl 1 rfl) ?_
      refine va_get (D := (dC, dI)) (ci := 0) (v := .ref (a 3)) (C := RX0) (T := TX0) (N := 11) hx hb hts hiw hown hK hP 0 rfl rfl 2 (by decide) hf_17 (fun _ h9 => h9) rfl dX0_meetTargets_4 ?_
      refine lv_iload_n hx hb dX0_meetTargets_7 rfl (lv_at hl 2 rfl) ?_
      refine ga_iald hx hb hK hP 3 0 rfl rfl x (v := nI (cf x)) rfl (by omega) (by decide) dX0_meetTargets_8 ?_
      refine lv_icmp_ge (tgt := 32) hx hb dX0_meetTargets_9 (by decide) (fun h9 => ?_) (fun h9 => absurd (Int32.le_refl _) h9)
      exact W.vret hx hb hr (fun t ht hW => ⟨⟨(mk1, mt1, im1), rfl, ⟨h1, h2, h3, h4⟩, by rw [ht]; exact hP, va_K.moved hW.alike hK, hD⟩, hS.F ht⟩) hS.2.2 dX0_meetTargets_32
    | succ k ih =>
      intro j hj mk1 mt1 im1 h1 h2 h3 h4 H locs hP hD hS ls hl
      have htj := htt x hxn j (by omega)
      refine lv_iload_n hx hb dX0_meetTargets_2 rfl (lv_at hl 0 rfl) ?_
      refine lv_aload_n hx hb dX0_meetTargets_3 rfl (lv_at hl 1 rfl) ?_
      refine va_get (D := (dC, dI)) (ci := 0) (v := .ref (a 3)) (C := RX0) (T := TX0) (N := 11) hx hb hts hiw hown hK hP 0 rfl rfl 2 (by decide) hf_17 (fun _ h9 => h9) rfl dX0_meetTargets_4 ?_
      refine lv_iload_n hx hb dX0_meetTargets_7 rfl (lv_at hl 2 rfl) ?_
      refine ga_iald hx hb hK hP 3 0 rfl rfl x (v := nI (cf x)) rfl (by omega) (by decide) dX0_meetTargets_8 ?_
      refine lv_icmp_ge (tgt := 32) hx hb dX0_meetTargets_9 (by decide) (fun h9 => absurd h9 (nI_ge (by omega) (by omega))) (fun h9 => ?_)
      refine lv_aload_n hx hb dX0_meetTargets_12 rfl (lv_at hl 1 rfl) ?_
      refine lv_aload_n hx hb dX0_meetTargets_13 rfl (lv_at hl 1 rfl) ?_
      refine va_get (D := (dC, dI)) (ci := 0) (v := .ref (a 4)) (C := RX0) (T := TX0) (N := 11) hx hb hts hiw hown hK hP 0 rfl rfl 3 (by decide) hf_20 (fun _ h9 => h9) rfl dX0_meetTargets_14 ?_
      refine lv_iload_n hx hb dX0_meetTargets_17 rfl (lv_at hl 2 rfl) ?_
      refine lv_iload_n hx hb dX0_meetTargets_18 rfl (lv_at hl 0 rfl) ?_
      refine W.callR (r := nI (x * 6 + j)) (W.runS (As := [.int (nI x), .int (nI j)]) (rest := [.ref (a 4), .ref (a 0)]) ⟨hx, hb, hml, hown, hts⟩ (kX0_place l x j) (va_cwS 2 hts gX0_meetTargets_X0_place rfl rfl rfl (by decide +kernel) ⟨Nat.le_of_ble_eq_true rfl, Nat.le_of_ble_eq_true rfl⟩) ⟨blindT, fun _ _ _ => ⟨rfl, trivial⟩⟩ rfl rfl hl.1 rfl (lv_room (Nat.le_of_ble_eq_true rfl)) dX0_meetTargets_19 ⟨Nat.zero_le _, Nat.zero_le _⟩) ?_
      refine W.eq (g2 := F0 m 22 ls [.int (nI (x * 6 + j)), .ref (a 4), .ref (a 0)]) rfl ?_
      refine ga_iald hx hb hK hP 4 0 rfl rfl (x * 6 + j) (v := nI (tf (x * 6 + j))) rfl (by omega) (by decide) dX0_meetTargets_22 ?_
      have hF := freeAll hD hS hA
      refine va_callv (va_runV (As := [.int (nI (tf (x * 6 + j)))]) (rest := []) ⟨hx, hb, hml, hown, hts⟩ (kX0_meet l dC dI cI cZ cA a H.size n am rf mk1 wv lo cf tf T mt1 im1 (tf (x * 6 + j)) hn4 htj h1) (cwV 1 hts gX0_meetTargets_X0_meet rfl rfl rfl (by decide +kernel) ⟨Nat.le_of_ble_eq_true rfl, Nat.le_of_ble_eq_true rfl⟩) ⟨blindW, va_recv hK hP (ci := 0) (q0 := 0) rfl rfl, preW hP hK hD⟩ rfl rfl hl.1 rfl (lv_room (Nat.le_of_ble_eq_true rfl)) dX0_meetTargets_23 ⟨Nat.zero_le _, Nat.zero_le _⟩) hS (fun q _ h => hF q h) hF (fun u tS H1 locs htS hvm hw hB hz1 hk1 hS => ?_)
      obtain ⟨mk2, mt2, im2⟩ := u
      obtain ⟨b1, b2, b3, b4⟩ : Mrun n mk2 mt2 im2 ∧ mk1 ≤ mk2 ∧ (∀ i, i < mk1 → mt2 i = mt1 i) ∧ ∀ z, im2 z = 1 ↔ im1 z = 1 ∨ z = tf (x * 6 + j) := hw
      obtain ⟨hP1, hK1, hD1⟩ := hB
      rw [htS] at hP1
      have hP : va_P (dC, dI) vwCl (XW cI cZ cA a n am rf mk2 wv lo cf tf T mt2 im2) H1 := hP1
      have hD : va_D A (XW cI cZ cA a n am rf mk2 wv lo cf tf T mt2 im2) := hD1.weaken (fun _ _ _ h => hF _ h)
      generalize H1 = H at hP hS ⊢
      refine W.eq (g2 := F0 m 26 ls []) rfl ?_
      refine lv_iinc (v := nI (j + 1)) (lv' := [(2, .int (nI (j + 1))), (0, .ref (a 0)), (1, .int (nI x))]) hx hb dX0_meetTargets_26 hl (k := 0) rfl (nI_1 j) (by decide) rfl (fun ls hl => ?_)
      refine lv_goto (tgt := 2) hx hb dX0_meetTargets_29 (by decide) ?_
      refine ih (j + 1) (by omega) mk2 mt2 im2 b1 (by omega) (fun i hi => by rw [b3 i (by omega), h3 i hi]) (fun z => ?_) H locs hP hD hS ls (lv_sub hl [0, 1, 2] rfl)
      rw [b4 z, h4 z]
      constructor
      · rintro ((q | ⟨i, q1, q2⟩) | q)
        · exact Or.inl q
        · exact Or.inr ⟨i, by omega, q2⟩
        · exact Or.inr ⟨j, by omega, q.symm⟩
      · rintro (q | ⟨i, q1, q2⟩)
        · exact Or.inl (Or.inl q)
        · by_cases e : i = j
          · exact Or.inr (by rw [← q2, e])
          · exact Or.inl (Or.inr ⟨i, by omega, q2⟩)
  exact loop (cf x) 0 (by omega) mk mt im hM (Nat.le_refl _) (fun _ _ => rfl) (fun z => ⟨fun q => Or.inl q, fun q => q.elim id (fun ⟨i, q1, _⟩ => absurd q1 (by omega))⟩) s.heap [] hP hD hS ls (lv_sub hl [0, 1, 2] rfl)
set_option maxHeartbeats 4000000 in
set_option maxRecDepth 100000 in
/-- around -/
theorem kX0_around (l : Launch) (dC : Nat → ClassId) (dI : Nat → Nat → Nat) (cI cZ cA : ClassId) (a : Nat → Nat) (sz : Nat) (n : Nat) (am : Nat) (rf : Nat) (mk : Nat) (wv : Nat → Int32) (lo : Nat → Int32) (cf : Nat → Nat) (tf : Nat → Nat) (T : Nat → Nat → Int32) (mt : Nat → Nat) (im : Nat → Int32) (x d : Nat) (hd : d < 8) (hG : Gok n wv lo cf tf) (hM : Mkeep mk mt im) (hxn : x < n) : Met l yX0_around wsX0_around ({ frames := 7, cells := 0, slots := 0, locals := 104 }) (va_Pc [.ref (a 0), .int (nI x), .int (nI d)] (WP dC dI (GT cI cZ cA) (XW cI cZ cA a n am rf mk wv lo cf tf T mt im) sz)) (va_Qi (fun r (u : Nat × (Nat → Nat) × (Nat → Int32)) => r = nI (cntP (rch cf tf x d) n) ∧ Mkeep u.1 u.2.1 u.2.2) (fun u => WQ dC dI (GT cI cZ cA) (va_A (XW cI cZ cA a n am rf mk wv lo cf tf T mt im) sz) (XW cI cZ cA a n am rf (u.1) wv lo cf tf T (u.2.1) (u.2.2))) (va_A (XW cI cZ cA a n am rf mk wv lo cf tf T mt im) sz)) 0 0 (va_A (XW cI cZ cA a n am rf mk wv lo cf tf T mt im) sz) := by
  refine Met.ofW (cc := cX0_around) (maxL := 6) (ret := (some .int)) (by decide) rfl ?_
  intro p e s m args below meth c s₁ B hml hv
  obtain ⟨rfl, hsz, hP, hK, hD0⟩ := hv
  have hx := B.exec
  have hb := B.bytes
  have hr := B.returns
  have hts := atoms_spec (ws := wsX0_around) B.pre
  have hown : s.vm.findClass RX0 = some m.cls := findClass_of_methodNamed B.named
  have hlocks := B.notSynchronized
  have hf_44 := hts (.fieldLink RX0 44 "GraphSearch" "metCount" "I") (by decide +kernel)
  have hf_38 := hts (.fieldLink RX0 38 "GraphSearch" "met" "[I") (by decide +kernel)
  have hiw : ∀ w ∈ wsX00, w ∈ wsX0_around := by decide +kernel
  subst hsz
  have hD := hD0.self (sz := s.heap.size)
  generalize hAe : va_A (XW cI cZ cA a n am rf mk wv lo cf tf T mt im) s.heap.size = A at hD ⊢
  have hA : ∀ q : Nat, s.heap.size ≤ q → A q := fun q h => by rw [← hAe]; exact Or.inr h
  have hS : va_S A s.heap s.heap [] := va_S.rf
  have hP : va_P (dC, dI) vwCl (XW cI cZ cA a n am rf mk wv lo cf tf T mt im) s.heap := hP
  have hl := lv_entry ([.ref (a 0), .int (nI x), .int (nI d)]) (n := 6) (Nat.le_of_ble_eq_true rfl)
  rw [lg_entry_eq]
  generalize (lg_sl ([.ref (a 0), .int (nI x), .int (nI d)]) ++ List.replicate (6 - (lg_sl ([.ref (a 0), .int (nI x), .int (nI d)])).length) Slot.unset).toArray = ls at hl ⊢
  have hl : lv_has ls 6 [(0, .ref (a 0)), (1, .int (nI x)), (2, .int (nI d))] := hl
  obtain ⟨hn4, hwr, hc, htt, hlo, hz0⟩ := id hG
  refine lv_aload_n hx hb dX0_around_0 rfl (lv_at hl 0 rfl) ?_
  refine lv_iload_n hx hb dX0_around_1 rfl (lv_at hl 1 rfl) ?_
  refine lv_iload_n hx hb dX0_around_2 rfl (lv_at hl 2 rfl) ?_
  refine va_csv (W.runV (As := [.int (nI x), .int (nI d)]) (rest := []) ⟨hx, hb, hml, hown, hts⟩ (kX0_refuse l dC dI cI cZ cA a n am rf mk wv lo cf tf T mt im x d hn4 hxn hd) (cwV 2 hts gX0_around_X0_refuseWrongQuestion rfl rfl rfl (by decide +kernel) ⟨Nat.le_of_ble_eq_true rfl, Nat.le_of_ble_eq_true rfl⟩) ⟨blindR, va_recv hK hP (ci := 0) (q0 := 0) rfl rfl, preR hP hK⟩ rfl rfl hl.1 rfl (lv_room (Nat.le_of_ble_eq_true rfl)) dX0_around_3 ⟨Nat.zero_le _, Nat.zero_le _⟩) (fun _ => ?_)
  refine W.eq (g2 := F0 m 6 ls []) rfl ?_
  refine lv_aload_n hx hb dX0_around_6 rfl (lv_at hl 0 rfl) ?_
  have hF := freeAll hD hS hA
  refine va_callv (va_runV (As := []) (rest := []) ⟨hx, hb, hml, hown, hts⟩ (kX0_forgetMet l dC dI cI cZ cA a s.heap.size n am rf mk wv lo cf tf T mt im hM) (cwV 0 hts gX0_around_X0_forgetMet rfl rfl rfl (by decide +kernel) ⟨Nat.le_of_ble_eq_true rfl, Nat.le_of_ble_eq_true rfl⟩) ⟨blindW, va_recv hK hP (ci := 0) (q0 := 0) rfl rfl, preW hP hK hD⟩ rfl rfl hl.1 rfl (lv_room (Nat.le_of_ble_eq_true rfl)) dX0_around_7 ⟨Nat.zero_le _, Nat.zero_le _⟩) hS (fun q _ h => hF q h) hF (fun im0 tS H1 locs htS hvm hw hB hz1 hk1 hS => ?_)
  have hi0 : ∀ y, im0 y = 0 := hw
  obtain ⟨hP1, hK1, hD1⟩ := hB
  rw [htS] at hP1
  have hP : va_P (dC, dI) vwCl (XW cI cZ cA a n am rf 0 wv lo cf tf T mt im0) H1 := hP1
  have hD : va_D A (XW cI cZ cA a n am rf 0 wv lo cf tf T mt im0) := hD1.weaken (fun _ _ _ h => hF _ h)
  generalize H1 = H at hP hS ⊢
  refine W.eq (g2 := F0 m 10 ls []) rfl ?_
  have hR0 : Mrun n 0 mt im0 := ⟨fun y => Or.inl (hi0 y), (cntP_0 n (fun k _ q => absurd ((hi0 k).symm.trans q) (by decide))).symm, fun i hi => absurd hi (by omega), fun y q => absurd ((hi0 y).symm.trans q) (by decide)⟩
  refine lv_aload_n hx hb dX0_around_10 rfl (lv_at hl 0 rfl) ?_
  refine lv_iload_n hx hb dX0_around_11 rfl (lv_at hl 1 rfl) ?_
  have hF := freeAll hD hS hA
  refine va_callv (va_runV (As := [.int (nI x)]) (rest := []) ⟨hx, hb, hml, hown, hts⟩ (kX0_meet l dC dI cI cZ cA a H.size n am rf 0 wv lo cf tf T mt im0 x hn4 hxn hR0) (cwV 1 hts gX0_around_X0_meet rfl rfl rfl (by decide +kernel) ⟨Nat.le_of_ble_eq_true rfl, Nat.le_of_ble_eq_true rfl⟩) ⟨blindW, va_recv hK hP (ci := 0) (q0 := 0) rfl rfl, preW hP hK hD⟩ rfl rfl hl.1 rfl (lv_room (Nat.le_of_ble_eq_true rfl)) dX0_around_12 ⟨Nat.zero_le _, Nat.zero_le _⟩) hS (fun q _ h => hF q h) hF (fun u tS H1 locs htS hvm hw hB hz1 hk1 hS => ?_)
  obtain ⟨mk1, mt1, im1⟩ := u
  obtain ⟨b1, -, -, b4⟩ : Mrun n mk1 mt1 im1 ∧ 0 ≤ mk1 ∧ (∀ i, i < 0 → mt1 i = mt i) ∧ ∀ z, im1 z = 1 ↔ im0 z = 1 ∨ z = x := hw
  obtain ⟨hP1, hK1, hD1⟩ := hB
  rw [htS] at hP1
  have hP : va_P (dC, dI) vwCl (XW cI cZ cA a n am rf mk1 wv lo cf tf T mt1 im1) H1 := hP1
  have hD : va_D A (XW cI cZ cA a n am rf mk1 wv lo cf tf T mt1 im1) := hD1.weaken (fun _ _ _ h => hF _ h)
  generalize H1 = H at hP hS ⊢
  refine W.eq (g2 := F0 m 15 ls []) rfl ?_
  refine lv_iconst (v := 0) hx hb dX0_around_15 (by decide) ?_
  refine ga_is (y := nI 0) (rfl) ?_
  refine lv_istore_n (lv' := [(3, .int (nI 0)), (0, .ref (a 0)), (1, .int (nI x)), (2, .int (nI d))]) hx hb dX0_around_16 rfl hl (by decide) rfl (fun ls hl => ?_)
  refine lv_iconst (v := 0) hx hb dX0_around_17 (by decide) ?_
  refine ga_is (y := nI 0) (rfl) ?_
  refine lv_istore (lv' := [(4, .int (nI 0)), (3, .int (nI 0)), (0, .ref (a 0)), (1, .int (nI x)), (2, .int (nI d))]) hx hb dX0_around_18 hl (by decide) rfl (fun ls hl => ?_)
  have outer : ∀ (k t : Nat), t + k = d → ∀ (p0 mk1 : Nat) (mt1 : Nat → Nat) (im1 : Nat → Int32), Mrun n mk1 mt1 im1 → (∀ z, im1 z = 1 ↔ rch cf tf x t z) → p0 ≤ mk1 → (∀ i, i < p0 → ∀ j, j < cf (mt1 i) → im1 (tf (mt1 i * 6 + j)) = 1) → ∀ (H : Heap) (locs : List Loc), va_P (dC, dI) vwCl (XW cI cZ cA a n am rf mk1 wv lo cf tf T mt1 im1) H → va_D A (XW cI cZ cA a n am rf mk1 wv lo cf tf T mt1 im1) → va_S A s.heap H locs → ∀ ls : Array Slot, lv_has ls 6 [(4, .int (nI t)), (3, .int (nI p0)), (0, .ref (a 0)), (1, .int (nI x)), (2, .int (nI d))] → W p l e (headSpec wsX0_around (({ frames := 7, cells := 0, slots := 0, locals := 104 }) : Room)).room s m ([.ref (a 0), .int (nI x), .int (nI d)] : List Value).toArray below meth c H locs 0 0 (MQ below (va_Qi (fun r (u : Nat × (Nat → Nat) × (Nat → Int32)) => r = nI (cntP (rch cf tf x d) n) ∧ Mkeep u.1 u.2.1 u.2.2) (fun u => WQ dC dI (GT cI cZ cA) A (XW cI cZ cA a n am rf (u.1) wv lo cf tf T (u.2.1) (u.2.2))) A) ([.ref (a 0), .int (nI x), .int (nI d)] : List Value).toArray s 0 0 A) (F0 m 20 ls []) := by
    intro k
    induction k with
    | zero =>
      intro t ht p0 mk1 mt1 im1 h1 h2 h3 h4 H locs hP hD hS ls hl
      obtain rfl : t = d := by omega
      refine lv_iload hx hb dX0_around_20 (lv_at hl 0 rfl) ?_
      refine lv_iload_n hx hb dX0_around_22 rfl (lv_at hl 4 rfl) ?_
      refine lv_icmp_ge (tgt := 60) hx hb dX0_around_23 (by decide) (fun h23 => ?_) (fun h23 => absurd (Int32.le_refl _) h23)
      refine lv_aload_n hx hb dX0_around_60 rfl (lv_at hl 2 rfl) ?_
      refine va_get (D := (dC, dI)) (ci := 0) (v := .int (nI mk1)) (C := RX0) (T := TX0) (N := 11) hx hb hts hiw hown hK hP 0 rfl rfl 10 (by decide) hf_44 (fun _ h9 => h9) rfl dX0_around_61 ?_
      exact W.iret (v := (nI mk1)) hx hb hr (fun t ht hW => ⟨⟨(nI mk1), (mk1, mt1, im1), rfl, ⟨by rw [h1.2.1, cntP_congr n (fun k _ => h2 k)], h1.keep hn4⟩, by rw [ht]; exact hP, va_K.moved hW.alike hK, hD⟩, hS.F ht⟩) hS.2.2 dX0_around_64
    | succ k ih =>
      intro t ht p0 mk1 mt1 im1 h1 h2 h3 h4 H locs hP hD hS ls hl
      have hmn : mk1 ≤ n := by rw [h1.2.1]; exact cntP_le n
      refine lv_iload hx hb dX0_around_20 (lv_at hl 0 rfl) ?_
      refine lv_iload_n hx hb dX0_around_22 rfl (lv_at hl 4 rfl) ?_
      refine lv_icmp_ge (tgt := 60) hx hb dX0_around_23 (by decide) (fun h23 => absurd h23 (nI_ge (by omega) (by omega))) (fun h23 => ?_)
      refine lv_aload_n hx hb dX0_around_26 rfl (lv_at hl 2 rfl) ?_
      refine va_get (D := (dC, dI)) (ci := 0) (v := .int (nI mk1)) (C := RX0) (T := TX0) (N := 11) hx hb hts hiw hown hK hP 0 rfl rfl 10 (by decide) hf_44 (fun _ h9 => h9) rfl dX0_around_27 ?_
      refine lv_istore (lv' := [(5, .int (nI mk1)), (4, .int (nI t)), (3, .int (nI p0)), (0, .ref (a 0)), (1, .int (nI x)), (2, .int (nI d))]) hx hb dX0_around_30 hl (by decide) rfl (fun ls hl => ?_)
      have inner : ∀ (k2 p1 : Nat), p1 + k2 = mk1 → ∀ (mk2 : Nat) (mt2 : Nat → Nat) (im2 : Nat → Int32), Mrun n mk2 mt2 im2 → mk1 ≤ mk2 → (∀ i, i < mk1 → mt2 i = mt1 i) → (∀ z, im2 z = 1 ↔ rch cf tf x t z ∨ ∃ i, i < p1 ∧ ∃ j, j < cf (mt1 i) ∧ tf (mt1 i * 6 + j) = z) → ∀ (H : Heap) (locs : List Loc), va_P (dC, dI) vwCl (XW cI cZ cA a n am rf mk2 wv lo cf tf T mt2 im2) H → va_D A (XW cI cZ cA a n am rf mk2 wv lo cf tf T mt2 im2) → va_S A s.heap H locs → ∀ ls : Array Slot, lv_has ls 6 [(3, .int (nI p1)), (5, .int (nI mk1)), (4, .int (nI t)), (0, .ref (a 0)), (1, .int (nI x)), (2, .int (nI d))] → W p l e (headSpec wsX0_around (({ frames := 7, cells := 0, slots := 0, locals := 104 }) : Room)).room s m ([.ref (a 0), .int (nI x), .int (nI d)] : List Value).toArray below meth c H locs 0 0 (MQ below (va_Qi (fun r (u : Nat × (Nat → Nat) × (Nat → Int32)) => r = nI (cntP (rch cf tf x d) n) ∧ Mkeep u.1 u.2.1 u.2.2) (fun u => WQ dC dI (GT cI cZ cA) A (XW cI cZ cA a n am rf (u.1) wv lo cf tf T (u.2.1) (u.2.2))) A) ([.ref (a 0), .int (nI x), .int (nI d)] : List Value).toArray s 0 0 A) (F0 m 32 ls []) := by
        intro k2
        induction k2 with
        | zero =>
          intro p1 hp mk2 mt2 im2 c1 c2 c3 c4 H locs hP hD hS ls hl
          obtain rfl : mk1 = p1 := by omega
          refine lv_iload_n hx hb dX0_around_32 rfl (lv_at hl 0 rfl) ?_
          refine lv_iload hx hb dX0_around_33 (lv_at hl 1 rfl) ?_
          refine lv_icmp_ge (tgt := 54) hx hb dX0_around_35 (by decide) (fun h35 => ?_) (fun h35 => absurd (Int32.le_refl _) h35)
          refine lv_iinc (v := nI (t + 1)) (lv' := [(4, .int (nI (t + 1))), (3, .int (nI mk1)), (5, .int (nI mk1)), (0, .ref (a 0)), (1, .int (nI x)), (2, .int (nI d))]) hx hb dX0_around_54 hl (k := 2) rfl (nI_1 t) (by decide) rfl (fun ls hl => ?_)
          refine lv_goto (tgt := 20) hx hb dX0_around_57 (by decide) ?_
          refine ih (t + 1) (by omega) mk1 mk2 mt2 im2 c1 (fun z => ?_) c2 (fun i hi j hj => ?_) H locs hP hD hS ls (lv_sub hl [0, 1, 3, 4, 5] rfl)
          · rw [c4 z]
            show _ ↔ rch cf tf x t z ∨ ∃ q, rch cf tf x t q ∧ ∃ j, j < cf q ∧ tf (q * 6 + j) = z
            constructor
            · rintro (q | ⟨i, q1, j, q2, q3⟩)
              · exact Or.inl q
              · exact Or.inr ⟨mt1 i, (h2 _).mp (h1.2.2.1 i q1).2, j, q2, q3⟩
            · rintro (q | ⟨v, q0, j, q2, q3⟩)
              · exact Or.inl q
              · obtain ⟨i, e1, e2⟩ := h1.2.2.2 v ((h2 v).mpr q0)
                exact Or.inr ⟨i, e1, j, by rw [e2]; exact q2, by rw [e2]; exact q3⟩
          · rw [c3 i hi] at hj ⊢
            exact (c4 _).mpr (Or.inr ⟨i, hi, j, hj, rfl⟩)
        | succ k2 ih2 =>
          intro p1 hp mk2 mt2 im2 c1 c2 c3 c4 H locs hP hD hS ls hl
          have e1 := c3 p1 (by omega)
          have hm1 := (c1.2.2.1 p1 (by omega)).1
          refine lv_iload_n hx hb dX0_around_32 rfl (lv_at hl 0 rfl) ?_
          refine lv_iload hx hb dX0_around_33 (lv_at hl 1 rfl) ?_
          refine lv_icmp_ge (tgt := 54) hx hb dX0_around_35 (by decide) (fun h35 => absurd h35 (nI_ge (by omega) (by omega))) (fun h35 => ?_)
          refine lv_aload_n hx hb dX0_around_38 rfl (lv_at hl 3 rfl) ?_
          refine lv_aload_n hx hb dX0_around_39 rfl (lv_at hl 3 rfl) ?_
          refine va_get (D := (dC, dI)) (ci := 0) (v := .ref (a 6)) (C := RX0) (T := TX0) (N := 11) hx hb hts hiw hown hK hP 0 rfl rfl 8 (by decide) hf_38 (fun _ h9 => h9) rfl dX0_around_40 ?_
          refine lv_iload_n hx hb dX0_around_43 rfl (lv_at hl 0 rfl) ?_
          refine ga_iald hx hb hK hP 6 0 rfl rfl p1 (v := nI (mt2 p1)) rfl (by omega) (by decide) dX0_around_44 ?_
          have hF := freeAll hD hS hA
          refine va_callv (va_runV (As := [.int (nI (mt2 p1))]) (rest := []) ⟨hx, hb, hml, hown, hts⟩ (kX0_meetTargets l dC dI cI cZ cA a H.size n am rf mk2 wv lo cf tf T mt2 im2 (mt2 p1) hG hm1 c1) (cwV 1 hts gX0_around_X0_meetTargets rfl rfl rfl (by decide +kernel) ⟨Nat.le_of_ble_eq_true rfl, Nat.le_of_ble_eq_true rfl⟩) ⟨blindW, va_recv hK hP (ci := 0) (q0 := 0) rfl rfl, preW hP hK hD⟩ rfl rfl hl.1 rfl (lv_room (Nat.le_of_ble_eq_true rfl)) dX0_around_45 ⟨Nat.zero_le _, Nat.zero_le _⟩) hS (fun q _ h => hF q h) hF (fun u tS H1 locs htS hvm hw hB hz1 hk1 hS => ?_)
          obtain ⟨mk3, mt3, im3⟩ := u
          obtain ⟨g1, g2, g3, g4⟩ : Mrun n mk3 mt3 im3 ∧ mk2 ≤ mk3 ∧ (∀ i, i < mk2 → mt3 i = mt2 i) ∧ ∀ z, im3 z = 1 ↔ im2 z = 1 ∨ ∃ j, j < cf (mt2 p1) ∧ tf (mt2 p1 * 6 + j) = z := hw
          obtain ⟨hP1, hK1, hD1⟩ := hB
          rw [htS] at hP1
          have hP : va_P (dC, dI) vwCl (XW cI cZ cA a n am rf mk3 wv lo cf tf T mt3 im3) H1 := hP1
          have hD : va_D A (XW cI cZ cA a n am rf mk3 wv lo cf tf T mt3 im3) := hD1.weaken (fun _ _ _ h => hF _ h)
          generalize H1 = H at hP hS ⊢
          refine W.eq (g2 := F0 m 48 ls []) rfl ?_
          refine lv_iinc (v := nI (p1 + 1)) (lv' := [(3, .int (nI (p1 + 1))), (5, .int (nI mk1)), (4, .int (nI t)), (0, .ref (a 0)), (1, .int (nI x)), (2, .int (nI d))]) hx hb dX0_around_48 hl (k := 0) rfl (nI_1 p1) (by decide) rfl (fun ls hl => ?_)
          refine lv_goto (tgt := 32) hx hb dX0_around_51 (by decide) ?_
          refine ih2 (p1 + 1) (by omega) mk3 mt3 im3 g1 (by omega) (fun i hi => by rw [g3 i (by omega), c3 i hi]) (fun z => ?_) H locs hP hD hS ls (lv_sub hl [0, 1, 2, 3, 4, 5] rfl)
          rw [g4 z, c4 z, e1]
          constructor
          · rintro ((q | ⟨i, q1, q2⟩) | q)
            · exact Or.inl q
            · exact Or.inr ⟨i, by omega, q2⟩
            · exact Or.inr ⟨p1, by omega, q⟩
          · rintro (q | ⟨i, q1, q2⟩)
            · exact Or.inl (Or.inl q)
            · by_cases e : i = p1
              · exact Or.inr (by rw [e] at q2; exact q2)
              · exact Or.inl (Or.inr ⟨i, by omega, q2⟩)
      refine inner (mk1 - p0) p0 (by omega) mk1 mt1 im1 h1 (Nat.le_refl _) (fun _ _ => rfl) (fun z => ?_) H locs hP hD hS ls (lv_sub hl [2, 0, 1, 3, 4, 5] rfl)
      constructor
      · intro q; exact Or.inl ((h2 z).mp q)
      · rintro (q | ⟨i, q1, j, q2, q3⟩)
        · exact (h2 z).mpr q
        · rw [← q3]; exact h4 i q1 j q2
  exact outer d 0 (by omega) 0 mk1 mt1 im1 b1 (fun z => by rw [b4 z]; exact ⟨fun q => q.elim (fun h => absurd ((hi0 z).symm.trans h) (by decide)) id, Or.inr⟩) (Nat.zero_le _) (fun i hi => absurd hi (by omega)) H locs hP hD hS ls (lv_sub hl [0, 1, 2, 3, 4] rfl)
