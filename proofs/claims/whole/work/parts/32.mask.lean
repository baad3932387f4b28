/-- a question that is refused -/
def Bad (n : Nat) (x d : Int32) : Prop := isn x n = 0 ∨ d < 0 ∨ 7 < d
theorem ask_or {n : Nat} (hn : n < 2 ^ 31) (x d : Int32) : Bad n x d ∨ ∃ j e, j < n ∧ e < 8 ∧ x = nI j ∧ d = nI e := by
  rcases isn_in (x := x) hn with ⟨h1, j, hj, rfl⟩ | ⟨h0, -⟩
  · by_cases hd : d < 0
    · exact Or.inl (Or.inr (Or.inl hd))
    · by_cases hd7 : 7 < d
      · exact Or.inl (Or.inr (Or.inr hd7))
      · obtain ⟨e, he, rfl⟩ := nI_of2 (M := 7) (n := 7) (by decide +kernel) hd (i32_nlt hd7)
        exact Or.inr ⟨j, e, hj, by omega, rfl, rfl⟩
  · exact Or.inl (Or.inl h0)
theorem seven_nlt {d : Nat} (hd : d < 8) : ¬ (7 : Int32) < nI d := nI_nlt (b := d) (a := 7) (by omega) (by decide)
set_option maxHeartbeats 4000000 in
set_option maxRecDepth 100000 in
/-- asked, refused -/
theorem kX1_asked_no (l : Launch) (dC : Nat → ClassId) (dI : Nat → Nat → Nat) (cI cZ cA : ClassId) (a : Nat → Nat) (sz : Nat) (th : Nat) (n : Nat) (wv : Nat → Int32) (lo : Nat → Int32) (cf : Nat → Nat) (tf : Nat → Nat) (vs : Nat → Int32) (nr : Nat → Nat) (x d : Int32) (hB : Bad n x d) : Met l yX1_asked wsX1_asked ({ frames := 4, cells := 0, slots := 0, locals := 91 }) (va_Pc [.ref (a 0), .int x, .int d] (WP dC dI (GT cI cZ cA) (MW cI cZ a th n wv lo cf tf vs nr) sz)) (va_Qi (fun r (_ : Unit) => r = 0) (fun (_ : Unit) => WQ dC dI (GT cI cZ cA) (va_A (MW cI cZ a th n wv lo cf tf vs nr) sz) (MW cI cZ a 1 n wv lo cf tf vs nr)) (va_A (MW cI cZ a th n wv lo cf tf vs nr) sz)) 0 0 (va_A (MW cI cZ a th n wv lo cf tf vs nr) sz) := by
  refine Met.ofW (cc := cX1_asked) (maxL := 3) (ret := (some .boolean)) (by decide) rfl ?_
  intro p e s m args below meth c s₁ B hml hv
  obtain ⟨rfl, hsz, hP, hK, hD0⟩ := hv
  have hx := B.exec
  have hb := B.bytes
  have hr := B.returns
  have hts := atoms_spec (ws := wsX1_asked) B.pre
  have hown : s.vm.findClass RX1 = some m.cls := findClass_of_methodNamed B.named
  have hlocks := B.notSynchronized
  have hf_29 := hts (.fieldLink RX1 29 "GraphSearchModel" "thrown" "I") (by decide +kernel)
  have hiw : ∀ w ∈ wsX10, w ∈ wsX1_asked := by decide +kernel
  subst hsz
  have hD := hD0.self (sz := s.heap.size)
  generalize hAe : va_A (MW cI cZ a th n wv lo cf tf vs nr) s.heap.size = A at hD ⊢
  have hA : ∀ q : Nat, s.heap.size ≤ q → A q := fun q h => by rw [← hAe]; exact Or.inr h
  have hS : va_S A s.heap s.heap [] := va_S.rf
  have hP : va_P (dC, dI) vwCl (MW cI cZ a th n wv lo cf tf vs nr) s.heap := hP
  have hl := lv_entry ([.ref (a 0), .int x, .int d]) (n := 3) (Nat.le_of_ble_eq_true rfl)
  rw [lg_entry_eq]
  generalize (lg_sl ([.ref (a 0), .int x, .int d]) ++ List.replicate (3 - (lg_sl ([.ref (a 0), .int x, .int d])).length) Slot.unset).toArray = ls at hl ⊢
  have hl : lv_has ls 3 [(0, .ref (a 0)), (1, .int x), (2, .int d)] := hl
  refine lv_aload_n hx hb dX1_asked_0 rfl (lv_at hl 0 rfl) ?_
  refine lv_aload_n hx hb dX1_asked_1 rfl (lv_at hl 0 rfl) ?_
  refine lv_iload_n hx hb dX1_asked_2 rfl (lv_at hl 1 rfl) ?_
  refine W.callR (r := isn x n) (W.runV (As := [.int x]) (rest := [.ref (a 0)]) ⟨hx, hb, hml, hown, hts⟩ (kX1_isNode l dC dI cI cZ cA a th n wv lo cf tf vs nr x) (cwV 1 hts gX1_asked_X1_isNode rfl rfl rfl (by decide +kernel) ⟨Nat.le_of_ble_eq_true rfl, Nat.le_of_ble_eq_true rfl⟩) ⟨blindR, va_recv hK hP (ci := 1) (q0 := 0) rfl rfl, preR hP hK⟩ rfl rfl hl.1 rfl (lv_room (Nat.le_of_ble_eq_true rfl)) dX1_asked_3 ⟨Nat.zero_le _, Nat.zero_le _⟩) ?_
  refine W.eq (g2 := F0 m 6 ls [.int (isn x n), .ref (a 0)]) rfl ?_
  refine lv_if_eq (tgt := 23) hx hb dX1_asked_6 (by decide) (fun h6 => ?_) (fun h6 => ?_)
  · refine lv_iconst (v := 1) hx hb dX1_asked_23 (by decide) ?_
    refine ga_is (y := nI 1) (rfl) ?_
    refine va_put (D := (dC, dI)) (ci := 1) (v := .int (nI 1)) (ty := .int) (C := RX1) (T := TX1) (N := 8) hx hb hts hiw tyX1 tyX1_ok nmX1 hown hK hP hD hS 0 rfl rfl 0 (by decide) hf_29 (fun _ h9 => h9) rfl (by decide +kernel) rfl rfl (Nat.le_of_ble_eq_true rfl) dX1_asked_24 (fun H locs hP hD hS => ?_)
    have hP : va_P (dC, dI) vwCl (MW cI cZ a 1 n wv lo cf tf vs nr) H := hP
    have hD : va_D A (MW cI cZ a 1 n wv lo cf tf vs nr) := hD
    refine lv_aload_n hx hb dX1_asked_27 rfl (lv_at hl 0 rfl) ?_
    refine va_get (D := (dC, dI)) (ci := 1) (v := .int (nI 1)) (C := RX1) (T := TX1) (N := 8) hx hb hts hiw hown hK hP 0 rfl rfl 0 (by decide) hf_29 (fun _ h9 => h9) rfl dX1_asked_28 ?_
    refine lv_if_ne (tgt := 39) hx hb dX1_asked_31 (by decide) (fun h31 => ?_) (fun h31 => absurd h31 (nI_ne0 (by decide) (by decide)))
    refine lv_aload_n hx hb dX1_asked_39 rfl (lv_at hl 0 rfl) ?_
    refine va_get (D := (dC, dI)) (ci := 1) (v := .int (nI 1)) (C := RX1) (T := TX1) (N := 8) hx hb hts hiw hown hK hP 0 rfl rfl 0 (by decide) hf_29 (fun _ h9 => h9) rfl dX1_asked_40 ?_
    refine lv_if_ne (tgt := 50) hx hb dX1_asked_43 (by decide) (fun h43 => ?_) (fun h43 => absurd h43 (nI_ne0 (by decide) (by decide)))
    refine lv_iconst (v := 0) hx hb dX1_asked_50 (by decide) ?_
    exact W.zret (v := 0) hx hb hr (by decide) (fun t ht hW => ⟨⟨0, (), rfl, rfl, by rw [ht]; exact hP, va_K.moved hW.alike hK, hD⟩, hS.F ht⟩) hS.2.2 dX1_asked_51
  · refine lv_iload_n hx hb dX1_asked_9 rfl (lv_at hl 2 rfl) ?_
    refine lv_if_lt (tgt := 23) hx hb dX1_asked_10 (by decide) (fun h10 => ?_) (fun h10 => ?_)
    · refine lv_iconst (v := 1) hx hb dX1_asked_23 (by decide) ?_
      refine ga_is (y := nI 1) (rfl) ?_
      refine va_put (D := (dC, dI)) (ci := 1) (v := .int (nI 1)) (ty := .int) (C := RX1) (T := TX1) (N := 8) hx hb hts hiw tyX1 tyX1_ok nmX1 hown hK hP hD hS 0 rfl rfl 0 (by decide) hf_29 (fun _ h9 => h9) rfl (by decide +kernel) rfl rfl (Nat.le_of_ble_eq_true rfl) dX1_asked_24 (fun H locs hP hD hS => ?_)
      have hP : va_P (dC, dI) vwCl (MW cI cZ a 1 n wv lo cf tf vs nr) H := hP
      have hD : va_D A (MW cI cZ a 1 n wv lo cf tf vs nr) := hD
      refine lv_aload_n hx hb dX1_asked_27 rfl (lv_at hl 0 rfl) ?_
      refine va_get (D := (dC, dI)) (ci := 1) (v := .int (nI 1)) (C := RX1) (T := TX1) (N := 8) hx hb hts hiw hown hK hP 0 rfl rfl 0 (by decide) hf_29 (fun _ h9 => h9) rfl dX1_asked_28 ?_
      refine lv_if_ne (tgt := 39) hx hb dX1_asked_31 (by decide) (fun h31 => ?_) (fun h31 => absurd h31 (nI_ne0 (by decide) (by decide)))
      refine lv_aload_n hx hb dX1_asked_39 rfl (lv_at hl 0 rfl) ?_
      refine va_get (D := (dC, dI)) (ci := 1) (v := .int (nI 1)) (C := RX1) (T := TX1) (N := 8) hx hb hts hiw hown hK hP 0 rfl rfl 0 (by decide) hf_29 (fun _ h9 => h9) rfl dX1_asked_40 ?_
      refine lv_if_ne (tgt := 50) hx hb dX1_asked_43 (by decide) (fun h43 => ?_) (fun h43 => absurd h43 (nI_ne0 (by decide) (by decide)))
      refine lv_iconst (v := 0) hx hb dX1_asked_50 (by decide) ?_
      exact W.zret (v := 0) hx hb hr (by decide) (fun t ht hW => ⟨⟨0, (), rfl, rfl, by rw [ht]; exact hP, va_K.moved hW.alike hK, hD⟩, hS.F ht⟩) hS.2.2 dX1_asked_51
    · refine lv_iload_n hx hb dX1_asked_13 rfl (lv_at hl 2 rfl) ?_
      refine lv_bipush (v := 7) hx hb dX1_asked_14 (by decide) ?_
      refine lv_icmp_gt (tgt := 23) hx hb dX1_asked_16 (by decide) (fun h16 => ?_) (fun h16 => absurd ((hB.resolve_left h6).resolve_left h10) h16)
      refine lv_iconst (v := 1) hx hb dX1_asked_23 (by decide) ?_
      refine ga_is (y := nI 1) (rfl) ?_
      refine va_put (D := (dC, dI)) (ci := 1) (v := .int (nI 1)) (ty := .int) (C := RX1) (T := TX1) (N := 8) hx hb hts hiw tyX1 tyX1_ok nmX1 hown hK hP hD hS 0 rfl rfl 0 (by decide) hf_29 (fun _ h9 => h9) rfl (by decide +kernel) rfl rfl (Nat.le_of_ble_eq_true rfl) dX1_asked_24 (fun H locs hP hD hS => ?_)
      have hP : va_P (dC, dI) vwCl (MW cI cZ a 1 n wv lo cf tf vs nr) H := hP
      have hD : va_D A (MW cI cZ a 1 n wv lo cf tf vs nr) := hD
      refine lv_aload_n hx hb dX1_asked_27 rfl (lv_at hl 0 rfl) ?_
      refine va_get (D := (dC, dI)) (ci := 1) (v := .int (nI 1)) (C := RX1) (T := TX1) (N := 8) hx hb hts hiw hown hK hP 0 rfl rfl 0 (by decide) hf_29 (fun _ h9 => h9) rfl dX1_asked_28 ?_
      refine lv_if_ne (tgt := 39) hx hb dX1_asked_31 (by decide) (fun h31 => ?_) (fun h31 => absurd h31 (nI_ne0 (by decide) (by decide)))
      refine lv_aload_n hx hb dX1_asked_39 rfl (lv_at hl 0 rfl) ?_
      refine va_get (D := (dC, dI)) (ci := 1) (v := .int (nI 1)) (C := RX1) (T := TX1) (N := 8) hx hb hts hiw hown hK hP 0 rfl rfl 0 (by decide) hf_29 (fun _ h9 => h9) rfl dX1_asked_40 ?_
      refine lv_if_ne (tgt := 50) hx hb dX1_asked_43 (by decide) (fun h43 => ?_) (fun h43 => absurd h43 (nI_ne0 (by decide) (by decide)))
      refine lv_iconst (v := 0) hx hb dX1_asked_50 (by decide) ?_
      exact W.zret (v := 0) hx hb hr (by decide) (fun t ht hW => ⟨⟨0, (), rfl, rfl, by rw [ht]; exact hP, va_K.moved hW.alike hK, hD⟩, hS.F ht⟩) hS.2.2 dX1_asked_51
set_option maxHeartbeats 4000000 in
set_option maxRecDepth 100000 in
/-- asked -/
theorem kX1_asked (l : Launch) (dC : Nat → ClassId) (dI : Nat → Nat → Nat) (cI cZ cA : ClassId) (a : Nat → Nat) (sz : Nat) (th : Nat) (n : Nat) (wv : Nat → Int32) (lo : Nat → Int32) (cf : Nat → Nat) (tf : Nat → Nat) (vs : Nat → Int32) (nr : Nat → Nat) (j d : Nat) (hd : d < 8) (hG : Gok n wv lo cf tf) (hj : j < n) : Met l yX1_asked wsX1_asked ({ frames := 4, cells := 0, slots := 0, locals := 91 }) (va_Pc [.ref (a 0), .int (nI j), .int (nI d)] (WP dC dI (GT cI cZ cA) (MW cI cZ a th n wv lo cf tf vs nr) sz)) (va_Qi (fun r (vs1 : Nat → Int32) => r = 1 ∧ Vok n wv lo cf tf d vs1) (fun vs1 => WQ dC dI (GT cI cZ cA) (va_A (MW cI cZ a th n wv lo cf tf vs nr) sz) (MW cI cZ a 0 n wv lo cf tf vs1 nr)) (va_A (MW cI cZ a th n wv lo cf tf vs nr) sz)) 0 0 (va_A (MW cI cZ a th n wv lo cf tf vs nr) sz) := by
  refine Met.ofW (cc := cX1_asked) (maxL := 3) (ret := (some .boolean)) (by decide) rfl ?_
  intro p e s m args below meth c s₁ B hml hv
  obtain ⟨rfl, hsz, hP, hK, hD0⟩ := hv
  have hx := B.exec
  have hb := B.bytes
  have hr := B.returns
  have hts := atoms_spec (ws := wsX1_asked) B.pre
  have hown : s.vm.findClass RX1 = some m.cls := findClass_of_methodNamed B.named
  have hlocks := B.notSynchronized
  have hf_29 := hts (.fieldLink RX1 29 "GraphSearchModel" "thrown" "I") (by decide +kernel)
  have hiw : ∀ w ∈ wsX10, w ∈ wsX1_asked := by decide +kernel
  subst hsz
  have hD := hD0.self (sz := s.heap.size)
  generalize hAe : va_A (MW cI cZ a th n wv lo cf tf vs nr) s.heap.size = A at hD ⊢
  have hA : ∀ q : Nat, s.heap.size ≤ q → A q := fun q h => by rw [← hAe]; exact Or.inr h
  have hS : va_S A s.heap s.heap [] := va_S.rf
  have hP : va_P (dC, dI) vwCl (MW cI cZ a th n wv lo cf tf vs nr) s.heap := hP
  have hl := lv_entry ([.ref (a 0), .int (nI j), .int (nI d)]) (n := 3) (Nat.le_of_ble_eq_true rfl)
  rw [lg_entry_eq]
  generalize (lg_sl ([.ref (a 0), .int (nI j), .int (nI d)]) ++ List.replicate (3 - (lg_sl ([.ref (a 0), .int (nI j), .int (nI d)])).length) Slot.unset).toArray = ls at hl ⊢
  have hl : lv_has ls 3 [(0, .ref (a 0)), (1, .int (nI j)), (2, .int (nI d))] := hl
  have hn4 := hG.1
  refine lv_aload_n hx hb dX1_asked_0 rfl (lv_at hl 0 rfl) ?_
  refine lv_aload_n hx hb dX1_asked_1 rfl (lv_at hl 0 rfl) ?_
  refine lv_iload_n hx hb dX1_asked_2 rfl (lv_at hl 1 rfl) ?_
  refine W.callR (r := isn (nI j) n) (W.runV (As := [.int (nI j)]) (rest := [.ref (a 0)]) ⟨hx, hb, hml, hown, hts⟩ (kX1_isNode l dC dI cI cZ cA a th n wv lo cf tf vs nr (nI j)) (cwV 1 hts gX1_asked_X1_isNode rfl rfl rfl (by decide +kernel) ⟨Nat.le_of_ble_eq_true rfl, Nat.le_of_ble_eq_true rfl⟩) ⟨blindR, va_recv hK hP (ci := 1) (q0 := 0) rfl rfl, preR hP hK⟩ rfl rfl hl.1 rfl (lv_room (Nat.le_of_ble_eq_true rfl)) dX1_asked_3 ⟨Nat.zero_le _, Nat.zero_le _⟩) ?_
  refine W.eq (g2 := F0 m 6 ls [.int (isn (nI j) n), .ref (a 0)]) rfl ?_
  refine lv_if_eq (tgt := 23) hx hb dX1_asked_6 (by decide) (fun h6 => absurd h6 (by rw [isn_1 hj (by omega)]; decide)) (fun h6 => ?_)
  refine lv_iload_n hx hb dX1_asked_9 rfl (lv_at hl 2 rfl) ?_
  refine lv_if_lt (tgt := 23) hx hb dX1_asked_10 (by decide) (fun h10 => absurd h10 (nI_pos (by omega))) (fun h10 => ?_)
  refine lv_iload_n hx hb dX1_asked_13 rfl (lv_at hl 2 rfl) ?_
  refine lv_bipush (v := 7) hx hb dX1_asked_14 (by decide) ?_
  refine lv_icmp_gt (tgt := 23) hx hb dX1_asked_16 (by decide) (fun h16 => absurd h16 (seven_nlt hd)) (fun h16 => ?_)
  refine lv_iconst (v := 0) hx hb dX1_asked_19 (by decide) ?_
  refine lv_goto (tgt := 24) hx hb dX1_asked_20 (by decide) ?_
  refine ga_is (y := nI 0) (rfl) ?_
  refine va_put (D := (dC, dI)) (ci := 1) (v := .int (nI 0)) (ty := .int) (C := RX1) (T := TX1) (N := 8) hx hb hts hiw tyX1 tyX1_ok nmX1 hown hK hP hD hS 0 rfl rfl 0 (by decide) hf_29 (fun _ h9 => h9) rfl (by decide +kernel) rfl rfl (Nat.le_of_ble_eq_true rfl) dX1_asked_24 (fun H locs hP hD hS => ?_)
  have hP : va_P (dC, dI) vwCl (MW cI cZ a 0 n wv lo cf tf vs nr) H := hP
  have hD : va_D A (MW cI cZ a 0 n wv lo cf tf vs nr) := hD
  refine lv_aload_n hx hb dX1_asked_27 rfl (lv_at hl 0 rfl) ?_
  refine va_get (D := (dC, dI)) (ci := 1) (v := .int (nI 0)) (C := RX1) (T := TX1) (N := 8) hx hb hts hiw hown hK hP 0 rfl rfl 0 (by decide) hf_29 (fun _ h9 => h9) rfl dX1_asked_28 ?_
  refine lv_if_ne (tgt := 39) hx hb dX1_asked_31 (by decide) (fun h31 => absurd (show nI 0 = 0 from rfl) h31) (fun h31 => ?_)
  refine lv_aload_n hx hb dX1_asked_34 rfl (lv_at hl 0 rfl) ?_
  refine lv_iload_n hx hb dX1_asked_35 rfl (lv_at hl 2 rfl) ?_
  have hF := freeAll hD hS hA
  refine va_callv (va_runV (As := [.int (nI d)]) (rest := []) ⟨hx, hb, hml, hown, hts⟩ (kX1_work l dC dI cI cZ cA a H.size 0 n wv lo cf tf vs nr d hd hG) (cwV 1 hts gX1_asked_X1_work rfl rfl rfl (by decide +kernel) ⟨Nat.le_of_ble_eq_true rfl, Nat.le_of_ble_eq_true rfl⟩) ⟨blindW, va_recv hK hP (ci := 1) (q0 := 0) rfl rfl, preW hP hK hD⟩ rfl rfl hl.1 rfl (lv_room (Nat.le_of_ble_eq_true rfl)) dX1_asked_36 ⟨Nat.zero_le _, Nat.zero_le _⟩) hS (fun q _ h => hF q h) hF (fun vs1 tS H1 locs htS hvm hw hB hz1 hk1 hS => ?_)
  obtain ⟨hP1, hK1, hD1⟩ := hB
  rw [htS] at hP1
  have hP : va_P (dC, dI) vwCl (MW cI cZ a 0 n wv lo cf tf vs1 nr) H1 := hP1
  have hD : va_D A (MW cI cZ a 0 n wv lo cf tf vs1 nr) := hD1.weaken (fun _ _ _ h => hF _ h)
  generalize H1 = H at hP hS ⊢
  refine W.eq (g2 := F0 m 39 ls []) rfl ?_
  refine lv_aload_n hx hb dX1_asked_39 rfl (lv_at hl 0 rfl) ?_
  refine va_get (D := (dC, dI)) (ci := 1) (v := .int (nI 0)) (C := RX1) (T := TX1) (N := 8) hx hb hts hiw hown hK hP 0 rfl rfl 0 (by decide) hf_29 (fun _ h9 => h9) rfl dX1_asked_40 ?_
  refine lv_if_ne (tgt := 50) hx hb dX1_asked_43 (by decide) (fun h43 => absurd (show nI 0 = 0 from rfl) h43) (fun h43 => ?_)
  refine lv_iconst (v := 1) hx hb dX1_asked_46 (by decide) ?_
  refine lv_goto (tgt := 51) hx hb dX1_asked_47 (by decide) ?_
  exact W.zret (v := 1) hx hb hr (by decide) (fun t ht hW => ⟨⟨1, vs1, rfl, ⟨rfl, hw⟩, by rw [ht]; exact hP, va_K.moved hW.alike hK, hD⟩, hS.F ht⟩) hS.2.2 dX1_asked_51
set_option maxHeartbeats 4000000 in
set_option maxRecDepth 100000 in
/-- value -/
theorem kX1_value (l : Launch) (dC : Nat → ClassId) (dI : Nat → Nat → Nat) (cI cZ cA : ClassId) (a : Nat → Nat) (sz : Nat) (th : Nat) (n : Nat) (wv : Nat → Int32) (lo : Nat → Int32) (cf : Nat → Nat) (tf : Nat → Nat) (vs : Nat → Int32) (nr : Nat → Nat) (j d : Nat)  (hd : d < 8) (hG : Gok n wv lo cf tf) (hj : j < n)  : Met l yX1_value wsX1_value ({ frames := 5, cells := 0, slots := 0, locals := 113 }) (va_Pc [.ref (a 0), .int (nI j), .int (nI d)] (WP dC dI (GT cI cZ cA) (MW cI cZ a th n wv lo cf tf vs nr) sz)) (va_Qi (fun r (vs1 : Nat → Int32) => r = vv wv lo cf tf d j) (fun vs1 => WQ dC dI (GT cI cZ cA) (va_A (MW cI cZ a th n wv lo cf tf vs nr) sz) (MW cI cZ a 0 n wv lo cf tf vs1 nr)) (va_A (MW cI cZ a th n wv lo cf tf vs nr) sz)) 0 0 (va_A (MW cI cZ a th n wv lo cf tf vs nr) sz) := by
  refine Met.ofW (cc := cX1_value) (maxL := 3) (ret := (some .int)) (by decide) rfl ?_
  intro p e s m args below meth c s₁ B hml hv
  obtain ⟨rfl, hsz, hP, hK, hD0⟩ := hv
  have hx := B.exec
  have hb := B.bytes
  have hr := B.returns
  have hts := atoms_spec (ws := wsX1_value) B.pre
  have hown : s.vm.findClass RX1 = some m.cls := findClass_of_methodNamed B.named
  have hlocks := B.notSynchronized
  subst hsz
  have hD := hD0.self (sz := s.heap.size)
  generalize hAe : va_A (MW cI cZ a th n wv lo cf tf vs nr) s.heap.size = A at hD ⊢
  have hA : ∀ q : Nat, s.heap.size ≤ q → A q := fun q h => by rw [← hAe]; exact Or.inr h
  have hS : va_S A s.heap s.heap [] := va_S.rf
  have hP : va_P (dC, dI) vwCl (MW cI cZ a th n wv lo cf tf vs nr) s.heap := hP
  have hl := lv_entry ([.ref (a 0), .int (nI j), .int (nI d)]) (n := 3) (Nat.le_of_ble_eq_true rfl)
  rw [lg_entry_eq]
  generalize (lg_sl ([.ref (a 0), .int (nI j), .int (nI d)]) ++ List.replicate (3 - (lg_sl ([.ref (a 0), .int (nI j), .int (nI d)])).length) Slot.unset).toArray = ls at hl ⊢
  have hl : lv_has ls 3 [(0, .ref (a 0)), (1, .int (nI j)), (2, .int (nI d))] := hl
  obtain ⟨hn4, hwr, hc, htt, hlo, hz0⟩ := id hG
  have hcj := hc j hj
  refine lv_aload_n hx hb dX1_value_0 rfl (lv_at hl 0 rfl) ?_
  refine lv_iload_n hx hb dX1_value_1 rfl (lv_at hl 1 rfl) ?_
  refine lv_iload_n hx hb dX1_value_2 rfl (lv_at hl 2 rfl) ?_
  have hF := freeAll hD hS hA
  refine va_calli (va_runV (As := [.int (nI j), .int (nI d)]) (rest := []) ⟨hx, hb, hml, hown, hts⟩ (kX1_asked l dC dI cI cZ cA a s.heap.size th n wv lo cf tf vs nr j d hd hG hj) (cwV 2 hts gX1_value_X1_asked rfl rfl rfl (by decide +kernel) ⟨Nat.le_of_ble_eq_true rfl, Nat.le_of_ble_eq_true rfl⟩) ⟨blindW, va_recv hK hP (ci := 1) (q0 := 0) rfl rfl, preW hP hK hD⟩ rfl rfl hl.1 rfl (lv_room (Nat.le_of_ble_eq_true rfl)) dX1_value_3 ⟨Nat.zero_le _, Nat.zero_le _⟩) hS (fun q _ h => hF q h) hF (fun r_ vs1 tS H1 locs htS hvm hw hB hz1 hk1 hS => ?_)
  obtain ⟨rfl, hV⟩ : r_ = 1 ∧ Vok n wv lo cf tf d vs1 := hw
  obtain ⟨hP1, hK1, hD1⟩ := hB
  rw [htS] at hP1
  have hP : va_P (dC, dI) vwCl (MW cI cZ a 0 n wv lo cf tf vs1 nr) H1 := hP1
  have hD : va_D A (MW cI cZ a 0 n wv lo cf tf vs1 nr) := hD1.weaken (fun _ _ _ h => hF _ h)
  generalize H1 = H at hP hS ⊢
  refine W.eq (g2 := F0 m 6 ls [.int 1]) rfl ?_
  refine lv_if_eq (tgt := 18) hx hb dX1_value_6 (by decide) (fun h6 => absurd h6 (by decide)) (fun h6 => ?_)
  refine lv_aload_n hx hb dX1_value_9 rfl (lv_at hl 0 rfl) ?_
  refine lv_iload_n hx hb dX1_value_10 rfl (lv_at hl 1 rfl) ?_
  refine lv_iload_n hx hb dX1_value_11 rfl (lv_at hl 2 rfl) ?_
  refine W.callR (r := vs1 (400 * d + j)) (W.runV (As := [.int (nI j), .int (nI d)]) (rest := []) ⟨hx, hb, hml, hown, hts⟩ (kX1_valueOf l dC dI cI cZ cA a 0 n wv lo cf tf vs1 nr j d hd (by omega)) (cwV 2 hts gX1_value_X1_valueOf rfl rfl rfl (by decide +kernel) ⟨Nat.le_of_ble_eq_true rfl, Nat.le_of_ble_eq_true rfl⟩) ⟨blindR, va_recv hK hP (ci := 1) (q0 := 0) rfl rfl, preR hP hK⟩ rfl rfl hl.1 rfl (lv_room (Nat.le_of_ble_eq_true rfl)) dX1_value_12 ⟨Nat.zero_le _, Nat.zero_le _⟩) ?_
  refine W.eq (g2 := F0 m 15 ls [.int (vs1 (400 * d + j))]) rfl ?_
  refine lv_goto (tgt := 19) hx hb dX1_value_15 (by decide) ?_
  exact W.iret (v := (vs1 (400 * d + j))) hx hb hr (fun t ht hW => ⟨⟨(vs1 (400 * d + j)), vs1, rfl, hV d (Nat.le_refl _) j hj, by rw [ht]; exact hP, va_K.moved hW.alike hK, hD⟩, hS.F ht⟩) hS.2.2 dX1_value_19
set_option maxHeartbeats 4000000 in
set_option maxRecDepth 100000 in
/-- value, refused -/
theorem kX1_value_no (l : Launch) (dC : Nat → ClassId) (dI : Nat → Nat → Nat) (cI cZ cA : ClassId) (a : Nat → Nat) (sz : Nat) (th : Nat) (n : Nat) (wv : Nat → Int32) (lo : Nat → Int32) (cf : Nat → Nat) (tf : Nat → Nat) (vs : Nat → Int32) (nr : Nat → Nat) (x d : Int32)  (hB : Bad n x d) : Met l yX1_value wsX1_value ({ frames := 5, cells := 0, slots := 0, locals := 113 }) (va_Pc [.ref (a 0), .int x, .int d] (WP dC dI (GT cI cZ cA) (MW cI cZ a th n wv lo cf tf vs nr) sz)) (va_Qi (fun r (_ : Unit) => r = 0) (fun (_ : Unit) => WQ dC dI (GT cI cZ cA) (va_A (MW cI cZ a th n wv lo cf tf vs nr) sz) (MW cI cZ a 1 n wv lo cf tf vs nr)) (va_A (MW cI cZ a th n wv lo cf tf vs nr) sz)) 0 0 (va_A (MW cI cZ a th n wv lo cf tf vs nr) sz) := by
  refine Met.ofW (cc := cX1_value) (maxL := 3) (ret := (some .int)) (by decide) rfl ?_
  intro p e s m args below meth c s₁ B hml hv
  obtain ⟨rfl, hsz, hP, hK, hD0⟩ := hv
  have hx := B.exec
  have hb := B.bytes
  have hr := B.returns
  have hts := atoms_spec (ws := wsX1_value) B.pre
  have hown : s.vm.findClass RX1 = some m.cls := findClass_of_methodNamed B.named
  have hlocks := B.notSynchronized
  subst hsz
  have hD := hD0.self (sz := s.heap.size)
  generalize hAe : va_A (MW cI cZ a th n wv lo cf tf vs nr) s.heap.size = A at hD ⊢
  have hA : ∀ q : Nat, s.heap.size ≤ q → A q := fun q h => by rw [← hAe]; exact Or.inr h
  have hS : va_S A s.heap s.heap [] := va_S.rf
  have hP : va_P (dC, dI) vwCl (MW cI cZ a th n wv lo cf tf vs nr) s.heap := hP
  have hl := lv_entry ([.ref (a 0), .int x, .int d]) (n := 3) (Nat.le_of_ble_eq_true rfl)
  rw [lg_entry_eq]
  generalize (lg_sl ([.ref (a 0), .int x, .int d]) ++ List.replicate (3 - (lg_sl ([.ref (a 0), .int x, .int d])).length) Slot.unset).toArray = ls at hl ⊢
  have hl : lv_has ls 3 [(0, .ref (a 0)), (1, .int x), (2, .int d)] := hl
  refine lv_aload_n hx hb dX1_value_0 rfl (lv_at hl 0 rfl) ?_
  refine lv_iload_n hx hb dX1_value_1 rfl (lv_at hl 1 rfl) ?_
  refine lv_iload_n hx hb dX1_value_2 rfl (lv_at hl 2 rfl) ?_
  have hF := freeAll hD hS hA
  refine va_calli (va_runV (As := [.int x, .int d]) (rest := []) ⟨hx, hb, hml, hown, hts⟩ (kX1_asked_no l dC dI cI cZ cA a s.heap.size th n wv lo cf tf vs nr x d hB) (cwV 2 hts gX1_value_X1_asked rfl rfl rfl (by decide +kernel) ⟨Nat.le_of_ble_eq_true rfl, Nat.le_of_ble_eq_true rfl⟩) ⟨blindW, va_recv hK hP (ci := 1) (q0 := 0) rfl rfl, preW hP hK hD⟩ rfl rfl hl.1 rfl (lv_room (Nat.le_of_ble_eq_true rfl)) dX1_value_3 ⟨Nat.zero_le _, Nat.zero_le _⟩) hS (fun q _ h => hF q h) hF (fun r_ _u tS H1 locs htS hvm hw hB hz1 hk1 hS => ?_)
  obtain rfl : r_ = 0 := hw
  obtain ⟨hP1, hK1, hD1⟩ := hB
  rw [htS] at hP1
  have hP : va_P (dC, dI) vwCl (MW cI cZ a 1 n wv lo cf tf vs nr) H1 := hP1
  have hD : va_D A (MW cI cZ a 1 n wv lo cf tf vs nr) := hD1.weaken (fun _ _ _ h => hF _ h)
  generalize H1 = H at hP hS ⊢
  refine W.eq (g2 := F0 m 6 ls [.int 0]) rfl ?_
  refine lv_if_eq (tgt := 18) hx hb dX1_value_6 (by decide) (fun h6 => ?_) (fun h6 => absurd rfl h6)
  refine lv_iconst (v := 0) hx hb dX1_value_18 (by decide) ?_
  exact W.iret (v := 0) hx hb hr (fun t ht hW => ⟨⟨0, (), rfl, rfl, by rw [ht]; exact hP, va_K.moved hW.alike hK, hD⟩, hS.F ht⟩) hS.2.2 dX1_value_19
set_option maxHeartbeats 4000000 in
set_option maxRecDepth 100000 in
/-- best -/
theorem kX1_best (l : Launch) (dC : Nat → ClassId) (dI : Nat → Nat → Nat) (cI cZ cA : ClassId) (a : Nat → Nat) (sz : Nat) (th : Nat) (n : Nat) (wv : Nat → Int32) (lo : Nat → Int32) (cf : Nat → Nat) (tf : Nat → Nat) (vs : Nat → Int32) (nr : Nat → Nat) (j d : Nat)  (hd : d < 8) (hG : Gok n wv lo cf tf) (hj : j < n)  : Met l yX1_best wsX1_best ({ frames := 5, cells := 0, slots := 0, locals := 113 }) (va_Pc [.ref (a 0), .int (nI j), .int (nI d)] (WP dC dI (GT cI cZ cA) (MW cI cZ a th n wv lo cf tf vs nr) sz)) (va_Qi (fun r (vs1 : Nat → Int32) => r = bm cf tf (vv wv lo cf tf) j d) (fun vs1 => WQ dC dI (GT cI cZ cA) (va_A (MW cI cZ a th n wv lo cf tf vs nr) sz) (MW cI cZ a 0 n wv lo cf tf vs1 nr)) (va_A (MW cI cZ a th n wv lo cf tf vs nr) sz)) 0 0 (va_A (MW cI cZ a th n wv lo cf tf vs nr) sz) := by
  refine Met.ofW (cc := cX1_best) (maxL := 3) (ret := (some .int)) (by decide) rfl ?_
  intro p e s m args below meth c s₁ B hml hv
  obtain ⟨rfl, hsz, hP, hK, hD0⟩ := hv
  have hx := B.exec
  have hb := B.bytes
  have hr := B.returns
  have hts := atoms_spec (ws := wsX1_best) B.pre
  have hown : s.vm.findClass RX1 = some m.cls := findClass_of_methodNamed B.named
  have hlocks := B.notSynchronized
  subst hsz
  have hD := hD0.self (sz := s.heap.size)
  generalize hAe : va_A (MW cI cZ a th n wv lo cf tf vs nr) s.heap.size = A at hD ⊢
  have hA : ∀ q : Nat, s.heap.size ≤ q → A q := fun q h => by rw [← hAe]; exact Or.inr h
  have hS : va_S A s.heap s.heap [] := va_S.rf
  have hP : va_P (dC, dI) vwCl (MW cI cZ a th n wv lo cf tf vs nr) s.heap := hP
  have hl := lv_entry ([.ref (a 0), .int (nI j), .int (nI d)]) (n := 3) (Nat.le_of_ble_eq_true rfl)
  rw [lg_entry_eq]
  generalize (lg_sl ([.ref (a 0), .int (nI j), .int (nI d)]) ++ List.replicate (3 - (lg_sl ([.ref (a 0), .int (nI j), .int (nI d)])).length) Slot.unset).toArray = ls at hl ⊢
  have hl : lv_has ls 3 [(0, .ref (a 0)), (1, .int (nI j)), (2, .int (nI d))] := hl
  obtain ⟨hn4, hwr, hc, htt, hlo, hz0⟩ := id hG
  have hcj := hc j hj
  refine lv_aload_n hx hb dX1_best_0 rfl (lv_at hl 0 rfl) ?_
  refine lv_iload_n hx hb dX1_best_1 rfl (lv_at hl 1 rfl) ?_
  refine lv_iload_n hx hb dX1_best_2 rfl (lv_at hl 2 rfl) ?_
  have hF := freeAll hD hS hA
  refine va_calli (va_runV (As := [.int (nI j), .int (nI d)]) (rest := []) ⟨hx, hb, hml, hown, hts⟩ (kX1_asked l dC dI cI cZ cA a s.heap.size th n wv lo cf tf vs nr j d hd hG hj) (cwV 2 hts gX1_best_X1_asked rfl rfl rfl (by decide +kernel) ⟨Nat.le_of_ble_eq_true rfl, Nat.le_of_ble_eq_true rfl⟩) ⟨blindW, va_recv hK hP (ci := 1) (q0 := 0) rfl rfl, preW hP hK hD⟩ rfl rfl hl.1 rfl (lv_room (Nat.le_of_ble_eq_true rfl)) dX1_best_3 ⟨Nat.zero_le _, Nat.zero_le _⟩) hS (fun q _ h => hF q h) hF (fun r_ vs1 tS H1 locs htS hvm hw hB hz1 hk1 hS => ?_)
  obtain ⟨rfl, hV⟩ : r_ = 1 ∧ Vok n wv lo cf tf d vs1 := hw
  obtain ⟨hP1, hK1, hD1⟩ := hB
  rw [htS] at hP1
  have hP : va_P (dC, dI) vwCl (MW cI cZ a 0 n wv lo cf tf vs1 nr) H1 := hP1
  have hD : va_D A (MW cI cZ a 0 n wv lo cf tf vs1 nr) := hD1.weaken (fun _ _ _ h => hF _ h)
  generalize H1 = H at hP hS ⊢
  refine W.eq (g2 := F0 m 6 ls [.int 1]) rfl ?_
  refine lv_if_eq (tgt := 18) hx hb dX1_best_6 (by decide) (fun h6 => absurd h6 (by decide)) (fun h6 => ?_)
  refine lv_aload_n hx hb dX1_best_9 rfl (lv_at hl 0 rfl) ?_
  refine lv_iload_n hx hb dX1_best_10 rfl (lv_at hl 1 rfl) ?_
  refine lv_iload_n hx hb dX1_best_11 rfl (lv_at hl 2 rfl) ?_
  refine W.callR (r := bm cf tf (rw_ vs1) j d) (W.runV (As := [.int (nI j), .int (nI d)]) (rest := []) ⟨hx, hb, hml, hown, hts⟩ (kX1_bestOf l dC dI cI cZ cA a 0 n wv lo cf tf vs1 nr j d hd (by omega) hcj (fun i hi => by have := htt j hj i hi; omega)) (cwV 2 hts gX1_best_X1_bestOf rfl rfl rfl (by decide +kernel) ⟨Nat.le_of_ble_eq_true rfl, Nat.le_of_ble_eq_true rfl⟩) ⟨blindR, va_recv hK hP (ci := 1) (q0 := 0) rfl rfl, preR hP hK⟩ rfl rfl hl.1 rfl (lv_room (Nat.le_of_ble_eq_true rfl)) dX1_best_12 ⟨Nat.zero_le _, Nat.zero_le _⟩) ?_
  refine W.eq (g2 := F0 m 15 ls [.int (bm cf tf (rw_ vs1) j d)]) rfl ?_
  refine lv_goto (tgt := 19) hx hb dX1_best_15 (by decide) ?_
  exact W.iret (v := (bm cf tf (rw_ vs1) j d)) hx hb hr (fun t ht hW => ⟨⟨(bm cf tf (rw_ vs1) j d), vs1, rfl, bm_congr hj htt d (fun e he y hy => hV e he y hy), by rw [ht]; exact hP, va_K.moved hW.alike hK, hD⟩, hS.F ht⟩) hS.2.2 dX1_best_19
set_option maxHeartbeats 4000000 in
set_option maxRecDepth 100000 in
/-- best, refused -/
theorem kX1_best_no (l : Launch) (dC : Nat → ClassId) (dI : Nat → Nat → Nat) (cI cZ cA : ClassId) (a : Nat → Nat) (sz : Nat) (th : Nat) (n : Nat) (wv : Nat → Int32) (lo : Nat → Int32) (cf : Nat → Nat) (tf : Nat → Nat) (vs : Nat → Int32) (nr : Nat → Nat) (x d : Int32)  (hB : Bad n x d) : Met l yX1_best wsX1_best ({ frames := 5, cells := 0, slots := 0, locals := 113 }) (va_Pc [.ref (a 0), .int x, .int d] (WP dC dI (GT cI cZ cA) (MW cI cZ a th n wv lo cf tf vs nr) sz)) (va_Qi (fun r (_ : Unit) => r = 0) (fun (_ : Unit) => WQ dC dI (GT cI cZ cA) (va_A (MW cI cZ a th n wv lo cf tf vs nr) sz) (MW cI cZ a 1 n wv lo cf tf vs nr)) (va_A (MW cI cZ a th n wv lo cf tf vs nr) sz)) 0 0 (va_A (MW cI cZ a th n wv lo cf tf vs nr) sz) := by
  refine Met.ofW (cc := cX1_best) (maxL := 3) (ret := (some .int)) (by decide) rfl ?_
  intro p e s m args below meth c s₁ B hml hv
  obtain ⟨rfl, hsz, hP, hK, hD0⟩ := hv
  have hx := B.exec
  have hb := B.bytes
  have hr := B.returns
  have hts := atoms_spec (ws := wsX1_best) B.pre
  have hown : s.vm.findClass RX1 = some m.cls := findClass_of_methodNamed B.named
  have hlocks := B.notSynchronized
  subst hsz
  have hD := hD0.self (sz := s.heap.size)
  generalize hAe : va_A (MW cI cZ a th n wv lo cf tf vs nr) s.heap.size = A at hD ⊢
  have hA : ∀ q : Nat, s.heap.size ≤ q → A q := fun q h => by rw [← hAe]; exact Or.inr h
  have hS : va_S A s.heap s.heap [] := va_S.rf
  have hP : va_P (dC, dI) vwCl (MW cI cZ a th n wv lo cf tf vs nr) s.heap := hP
  have hl := lv_entry ([.ref (a 0), .int x, .int d]) (n := 3) (Nat.le_of_ble_eq_true rfl)
  rw [lg_entry_eq]
  generalize (lg_sl ([.ref (a 0), .int x, .int d]) ++ List.replicate (3 - (lg_sl ([.ref (a 0), .int x, .int d])).length) Slot.unset).toArray = ls at hl ⊢
  have hl : lv_has ls 3 [(0, .ref (a 0)), (1, .int x), (2, .int d)] := hl
  refine lv_aload_n hx hb dX1_best_0 rfl (lv_at hl 0 rfl) ?_
  refine lv_iload_n hx hb dX1_best_1 rfl (lv_at hl 1 rfl) ?_
  refine lv_iload_n hx hb dX1_best_2 rfl (lv_at hl 2 rfl) ?_
  have hF := freeAll hD hS hA
  refine va_calli (va_runV (As := [.int x, .int d]) (rest := []) ⟨hx, hb, hml, hown, hts⟩ (kX1_asked_no l dC dI cI cZ cA a s.heap.size th n wv lo cf tf vs nr x d hB) (cwV 2 hts gX1_best_X1_asked rfl rfl rfl (by decide +kernel) ⟨Nat.le_of_ble_eq_true rfl, Nat.le_of_ble_eq_true rfl⟩) ⟨blindW, va_recv hK hP (ci := 1) (q0 := 0) rfl rfl, preW hP hK hD⟩ rfl rfl hl.1 rfl (lv_room (Nat.le_of_ble_eq_true rfl)) dX1_best_3 ⟨Nat.zero_le _, Nat.zero_le _⟩) hS (fun q _ h => hF q h) hF (fun r_ _u tS H1 locs htS hvm hw hB hz1 hk1 hS => ?_)
  obtain rfl : r_ = 0 := hw
  obtain ⟨hP1, hK1, hD1⟩ := hB
  rw [htS] at hP1
  have hP : va_P (dC, dI) vwCl (MW cI cZ a 1 n wv lo cf tf vs nr) H1 := hP1
  have hD : va_D A (MW cI cZ a 1 n wv lo cf tf vs nr) := hD1.weaken (fun _ _ _ h => hF _ h)
  generalize H1 = H at hP hS ⊢
  refine W.eq (g2 := F0 m 6 ls [.int 0]) rfl ?_
  refine lv_if_eq (tgt := 18) hx hb dX1_best_6 (by decide) (fun h6 => ?_) (fun h6 => absurd rfl h6)
  refine lv_iconst (v := 0) hx hb dX1_best_18 (by decide) ?_
  exact W.iret (v := 0) hx hb hr (fun t ht hW => ⟨⟨0, (), rfl, rfl, by rw [ht]; exact hP, va_K.moved hW.alike hK, hD⟩, hS.F ht⟩) hS.2.2 dX1_best_19
set_option maxHeartbeats 4000000 in
set_option maxRecDepth 100000 in
/-- reaches -/
theorem kX1_reaches (l : Launch) (dC : Nat → ClassId) (dI : Nat → Nat → Nat) (cI cZ cA : ClassId) (a : Nat → Nat) (sz : Nat) (th : Nat) (n : Nat) (wv : Nat → Int32) (lo : Nat → Int32) (cf : Nat → Nat) (tf : Nat → Nat) (vs : Nat → Int32) (nr : Nat → Nat) (j d : Nat) (v : Int32) (hd : d < 8) (hG : Gok n wv lo cf tf) (hj : j < n)  : Met l yX1_reaches wsX1_reaches ({ frames := 5, cells := 0, slots := 0, locals := 113 }) (va_Pc [.ref (a 0), .int (nI j), .int (nI d), .int v] (WP dC dI (GT cI cZ cA) (MW cI cZ a th n wv lo cf tf vs nr) sz)) (va_Qi (fun r (vs1 : Nat → Int32) => r = rea (vv wv lo cf tf d j) v) (fun vs1 => WQ dC dI (GT cI cZ cA) (va_A (MW cI cZ a th n wv lo cf tf vs nr) sz) (MW cI cZ a 0 n wv lo cf tf vs1 nr)) (va_A (MW cI cZ a th n wv lo cf tf vs nr) sz)) 0 0 (va_A (MW cI cZ a th n wv lo cf tf vs nr) sz) := by
  refine Met.ofW (cc := cX1_reaches) (maxL := 4) (ret := (some .boolean)) (by decide) rfl ?_
  intro p e s m args below meth c s₁ B hml hv
  obtain ⟨rfl, hsz, hP, hK, hD0⟩ := hv
  have hx := B.exec
  have hb := B.bytes
  have hr := B.returns
  have hts := atoms_spec (ws := wsX1_reaches) B.pre
  have hown : s.vm.findClass RX1 = some m.cls := findClass_of_methodNamed B.named
  have hlocks := B.notSynchronized
  subst hsz
  have hD := hD0.self (sz := s.heap.size)
  generalize hAe : va_A (MW cI cZ a th n wv lo cf tf vs nr) s.heap.size = A at hD ⊢
  have hA : ∀ q : Nat, s.heap.size ≤ q → A q := fun q h => by rw [← hAe]; exact Or.inr h
  have hS : va_S A s.heap s.heap [] := va_S.rf
  have hP : va_P (dC, dI) vwCl (MW cI cZ a th n wv lo cf tf vs nr) s.heap := hP
  have hl := lv_entry ([.ref (a 0), .int (nI j), .int (nI d), .int v]) (n := 4) (Nat.le_of_ble_eq_true rfl)
  rw [lg_entry_eq]
  generalize (lg_sl ([.ref (a 0), .int (nI j), .int (nI d), .int v]) ++ List.replicate (4 - (lg_sl ([.ref (a 0), .int (nI j), .int (nI d), .int v])).length) Slot.unset).toArray = ls at hl ⊢
  have hl : lv_has ls 4 [(0, .ref (a 0)), (1, .int (nI j)), (2, .int (nI d)), (3, .int v)] := hl
  obtain ⟨hn4, hwr, hc, htt, hlo, hz0⟩ := id hG
  have hcj := hc j hj
  refine lv_aload_n hx hb dX1_reaches_0 rfl (lv_at hl 0 rfl) ?_
  refine lv_iload_n hx hb dX1_reaches_1 rfl (lv_at hl 1 rfl) ?_
  refine lv_iload_n hx hb dX1_reaches_2 rfl (lv_at hl 2 rfl) ?_
  have hF := freeAll hD hS hA
  refine va_calli (va_runV (As := [.int (nI j), .int (nI d)]) (rest := []) ⟨hx, hb, hml, hown, hts⟩ (kX1_asked l dC dI cI cZ cA a s.heap.size th n wv lo cf tf vs nr j d hd hG hj) (cwV 2 hts gX1_reaches_X1_asked rfl rfl rfl (by decide +kernel) ⟨Nat.le_of_ble_eq_true rfl, Nat.le_of_ble_eq_true rfl⟩) ⟨blindW, va_recv hK hP (ci := 1) (q0 := 0) rfl rfl, preW hP hK hD⟩ rfl rfl hl.1 rfl (lv_room (Nat.le_of_ble_eq_true rfl)) dX1_reaches_3 ⟨Nat.zero_le _, Nat.zero_le _⟩) hS (fun q _ h => hF q h) hF (fun r_ vs1 tS H1 locs htS hvm hw hB hz1 hk1 hS => ?_)
  obtain ⟨rfl, hV⟩ : r_ = 1 ∧ Vok n wv lo cf tf d vs1 := hw
  obtain ⟨hP1, hK1, hD1⟩ := hB
  rw [htS] at hP1
  have hP : va_P (dC, dI) vwCl (MW cI cZ a 0 n wv lo cf tf vs1 nr) H1 := hP1
  have hD : va_D A (MW cI cZ a 0 n wv lo cf tf vs1 nr) := hD1.weaken (fun _ _ _ h => hF _ h)
  generalize H1 = H at hP hS ⊢
  refine W.eq (g2 := F0 m 6 ls [.int 1]) rfl ?_
  refine lv_if_eq (tgt := 23) hx hb dX1_reaches_6 (by decide) (fun h6 => absurd h6 (by decide)) (fun h6 => ?_)
  refine lv_aload_n hx hb dX1_reaches_9 rfl (lv_at hl 0 rfl) ?_
  refine lv_iload_n hx hb dX1_reaches_10 rfl (lv_at hl 1 rfl) ?_
  refine lv_iload_n hx hb dX1_reaches_11 rfl (lv_at hl 2 rfl) ?_
  refine W.callR (r := vs1 (400 * d + j)) (W.runV (As := [.int (nI j), .int (nI d)]) (rest := []) ⟨hx, hb, hml, hown, hts⟩ (kX1_valueOf l dC dI cI cZ cA a 0 n wv lo cf tf vs1 nr j d hd (by omega)) (cwV 2 hts gX1_reaches_X1_valueOf rfl rfl rfl (by decide +kernel) ⟨Nat.le_of_ble_eq_true rfl, Nat.le_of_ble_eq_true rfl⟩) ⟨blindR, va_recv hK hP (ci := 1) (q0 := 0) rfl rfl, preR hP hK⟩ rfl rfl hl.1 rfl (lv_room (Nat.le_of_ble_eq_true rfl)) dX1_reaches_12 ⟨Nat.zero_le _, Nat.zero_le _⟩) ?_
  refine W.eq (g2 := F0 m 15 ls [.int (vs1 (400 * d + j))]) rfl ?_
  refine ga_is (y := vv wv lo cf tf d j) (hV d (Nat.le_refl _) j hj) ?_
  refine lv_iload_n hx hb dX1_reaches_15 rfl (lv_at hl 3 rfl) ?_
  refine lv_icmp_lt (tgt := 23) hx hb dX1_reaches_16 (by decide) (fun h16 => ?_) (fun h16 => ?_)
  · refine lv_iconst (v := 0) hx hb dX1_reaches_23 (by decide) ?_
    exact W.zret (v := 0) hx hb hr (by decide) (fun t ht hW => ⟨⟨0, vs1, rfl, by rw [rea, if_pos h16], by rw [ht]; exact hP, va_K.moved hW.alike hK, hD⟩, hS.F ht⟩) hS.2.2 dX1_reaches_24
  · refine lv_iconst (v := 1) hx hb dX1_reaches_19 (by decide) ?_
    refine lv_goto (tgt := 24) hx hb dX1_reaches_20 (by decide) ?_
    exact W.zret (v := 1) hx hb hr (by decide) (fun t ht hW => ⟨⟨1, vs1, rfl, by rw [rea, if_neg h16], by rw [ht]; exact hP, va_K.moved hW.alike hK, hD⟩, hS.F ht⟩) hS.2.2 dX1_reaches_24
set_option maxHeartbeats 4000000 in
set_option maxRecDepth 100000 in
/-- reaches, refused -/
theorem kX1_reaches_no (l : Launch) (dC : Nat → ClassId) (dI : Nat → Nat → Nat) (cI cZ cA : ClassId) (a : Nat → Nat) (sz : Nat) (th : Nat) (n : Nat) (wv : Nat → Int32) (lo : Nat → Int32) (cf : Nat → Nat) (tf : Nat → Nat) (vs : Nat → Int32) (nr : Nat → Nat) (x d : Int32) (v : Int32) (hB : Bad n x d) : Met l yX1_reaches wsX1_reaches ({ frames := 5, cells := 0, slots := 0, locals := 113 }) (va_Pc [.ref (a 0), .int x, .int d, .int v] (WP dC dI (GT cI cZ cA) (MW cI cZ a th n wv lo cf tf vs nr) sz)) (va_Qi (fun r (_ : Unit) => r = 0) (fun (_ : Unit) => WQ dC dI (GT cI cZ cA) (va_A (MW cI cZ a th n wv lo cf tf vs nr) sz) (MW cI cZ a 1 n wv lo cf tf vs nr)) (va_A (MW cI cZ a th n wv lo cf tf vs nr) sz)) 0 0 (va_A (MW cI cZ a th n wv lo cf tf vs nr) sz) := by
  refine Met.ofW (cc := cX1_reaches) (maxL := 4) (ret := (some .boolean)) (by decide) rfl ?_
  intro p e s m args below meth c s₁ B hml hv
  obtain ⟨rfl, hsz, hP, hK, hD0⟩ := hv
  have hx := B.exec
  have hb := B.bytes
  have hr := B.returns
  have hts := atoms_spec (ws := wsX1_reaches) B.pre
  have hown : s.vm.findClass RX1 = some m.cls := findClass_of_methodNamed B.named
  have hlocks := B.notSynchronized
  subst hsz
  have hD := hD0.self (sz := s.heap.size)
  generalize hAe : va_A (MW cI cZ a th n wv lo cf tf vs nr) s.heap.size = A at hD ⊢
  have hA : ∀ q : Nat, s.heap.size ≤ q → A q := fun q h => by rw [← hAe]; exact Or.inr h
  have hS : va_S A s.heap s.heap [] := va_S.rf
  have hP : va_P (dC, dI) vwCl (MW cI cZ a th n wv lo cf tf vs nr) s.heap := hP
  have hl := lv_entry ([.ref (a 0), .int x, .int d, .int v]) (n := 4) (Nat.le_of_ble_eq_true rfl)
  rw [lg_entry_eq]
  generalize (lg_sl ([.ref (a 0), .int x, .int d, .int v]) ++ List.replicate (4 - (lg_sl ([.ref (a 0), .int x, .int d, .int v])).length) Slot.unset).toArray = ls at hl ⊢
  have hl : lv_has ls 4 [(0, .ref (a 0)), (1, .int x), (2, .int d), (3, .int v)] := hl
  refine lv_aload_n hx hb dX1_reaches_0 rfl (lv_at hl 0 rfl) ?_
  refine lv_iload_n hx hb dX1_reaches_1 rfl (lv_at hl 1 rfl) ?_
  refine lv_iload_n hx hb dX1_reaches_2 rfl (lv_at hl 2 rfl) ?_
  have hF := freeAll hD hS hA
  refine va_calli (va_runV (As := [.int x, .int d]) (rest := []) ⟨hx, hb, hml, hown, hts⟩ (kX1_asked_no l dC dI cI cZ cA a s.heap.size th n wv lo cf tf vs nr x d hB) (cwV 2 hts gX1_reaches_X1_asked rfl rfl rfl (by decide +kernel) ⟨Nat.le_of_ble_eq_true rfl, Nat.le_of_ble_eq_true rfl⟩) ⟨blindW, va_recv hK hP (ci := 1) (q0 := 0) rfl rfl, preW hP hK hD⟩ rfl rfl hl.1 rfl (lv_room (Nat.le_of_ble_eq_true rfl)) dX1_reaches_3 ⟨Nat.zero_le _, Nat.zero_le _⟩) hS (fun q _ h => hF q h) hF (fun r_ _u tS H1 locs htS hvm hw hB hz1 hk1 hS => ?_)
  obtain rfl : r_ = 0 := hw
  obtain ⟨hP1, hK1, hD1⟩ := hB
  rw [htS] at hP1
  have hP : va_P (dC, dI) vwCl (MW cI cZ a 1 n wv lo cf tf vs nr) H1 := hP1
  have hD : va_D A (MW cI cZ a 1 n wv lo cf tf vs nr) := hD1.weaken (fun _ _ _ h => hF _ h)
  generalize H1 = H at hP hS ⊢
  refine W.eq (g2 := F0 m 6 ls [.int 0]) rfl ?_
  refine lv_if_eq (tgt := 23) hx hb dX1_reaches_6 (by decide) (fun h6 => ?_) (fun h6 => absurd rfl h6)
  refine lv_iconst (v := 0) hx hb dX1_reaches_23 (by decide) ?_
  exact W.zret (v := 0) hx hb hr (by decide) (fun t ht hW => ⟨⟨0, (), rfl, rfl, by rw [ht]; exact hP, va_K.moved hW.alike hK, hD⟩, hS.F ht⟩) hS.2.2 dX1_reaches_24
